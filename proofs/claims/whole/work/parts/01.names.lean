-- ===== PART A: goes FIRST, ahead of the names: the tables' words, and 'selects' of the private methods out of them =====
/-- a private method of a class that the tables say can be made, by its rows of tables_1 -/
def lw_okq (q : MethodName × Nat) : Prop := (q.1.cls ≠ "java/lang/invoke/MethodHandle" ∧ q.1.cls ≠ "java/lang/invoke/VarHandle") ∧ Cond.instantiable q.1.cls q.2 ∈ tables_1 ∧ Cond.privateMethod q.1 ∈ tables_1 ∧ Cond.instanceMethod q.1 ∈ tables_1
theorem lw_p0 : lw_okq (⟨"AskTrust", "sendLetters", "()V"⟩, 11) := ⟨⟨by decide +kernel, by decide +kernel⟩, List.mem_of_getElem? (i := 14) (by decide +kernel), List.mem_of_getElem? (i := 181) (by decide +kernel), List.mem_of_getElem? (i := 182) (by decide +kernel)⟩
theorem lw_p1 : lw_okq (⟨"AskTrust", "heapAt", "(I)LAskTrust$Heap;"⟩, 11) := ⟨⟨by decide +kernel, by decide +kernel⟩, List.mem_of_getElem? (i := 14) (by decide +kernel), List.mem_of_getElem? (i := 213) (by decide +kernel), List.mem_of_getElem? (i := 214) (by decide +kernel)⟩
theorem lw_p2 : lw_okq (⟨"AskTrust", "codeNow", "(I)I"⟩, 11) := ⟨⟨by decide +kernel, by decide +kernel⟩, List.mem_of_getElem? (i := 14) (by decide +kernel), List.mem_of_getElem? (i := 293) (by decide +kernel), List.mem_of_getElem? (i := 294) (by decide +kernel)⟩
theorem lw_p3 : lw_okq (⟨"AskTrust", "answerInForce", "(I)I"⟩, 11) := ⟨⟨by decide +kernel, by decide +kernel⟩, List.mem_of_getElem? (i := 14) (by decide +kernel), List.mem_of_getElem? (i := 301) (by decide +kernel), List.mem_of_getElem? (i := 302) (by decide +kernel)⟩
theorem lw_p4 : lw_okq (⟨"AskTrust", "judgeAt", "(I)LAskTrust$Judge;"⟩, 11) := ⟨⟨by decide +kernel, by decide +kernel⟩, List.mem_of_getElem? (i := 14) (by decide +kernel), List.mem_of_getElem? (i := 381) (by decide +kernel), List.mem_of_getElem? (i := 382) (by decide +kernel)⟩
theorem lw_p5 : lw_okq (⟨"AskTrust$World", "siftBy", "(LAskTrust$Rule;I)V"⟩, 5) := ⟨⟨by decide +kernel, by decide +kernel⟩, List.mem_of_getElem? (i := 103) (by decide +kernel), List.mem_of_getElem? (i := 448) (by decide +kernel), List.mem_of_getElem? (i := 449) (by decide +kernel)⟩
theorem lw_p6 : lw_okq (⟨"AskTrust$World", "leastLetSpot", "(ILAskTrust$Law;)I"⟩, 5) := ⟨⟨by decide +kernel, by decide +kernel⟩, List.mem_of_getElem? (i := 103) (by decide +kernel), List.mem_of_getElem? (i := 493) (by decide +kernel), List.mem_of_getElem? (i := 494) (by decide +kernel)⟩
theorem lw_p7 : lw_okq (⟨"AskTrust$World", "isAnyJust", "(II)Z"⟩, 5) := ⟨⟨by decide +kernel, by decide +kernel⟩, List.mem_of_getElem? (i := 103) (by decide +kernel), List.mem_of_getElem? (i := 509) (by decide +kernel), List.mem_of_getElem? (i := 510) (by decide +kernel)⟩
theorem lw_p8 : lw_okq (⟨"AskTrustModel", "forgets", "(I)V"⟩, 26) := ⟨⟨by decide +kernel, by decide +kernel⟩, List.mem_of_getElem? (i := 546) (by decide +kernel), List.mem_of_getElem? (i := 554) (by decide +kernel), List.mem_of_getElem? (i := 555) (by decide +kernel)⟩
theorem lw_p9 : lw_okq (⟨"AskTrustModel", "changes", "()V"⟩, 26) := ⟨⟨by decide +kernel, by decide +kernel⟩, List.mem_of_getElem? (i := 546) (by decide +kernel), List.mem_of_getElem? (i := 652) (by decide +kernel), List.mem_of_getElem? (i := 653) (by decide +kernel)⟩
theorem lw_p10 : lw_okq (⟨"AskTrustModel", "factsOf", "(I)I"⟩, 26) := ⟨⟨by decide +kernel, by decide +kernel⟩, List.mem_of_getElem? (i := 546) (by decide +kernel), List.mem_of_getElem? (i := 686) (by decide +kernel), List.mem_of_getElem? (i := 687) (by decide +kernel)⟩
theorem lw_p11 : lw_okq (⟨"AskTrustModel", "value", "(II)I"⟩, 26) := ⟨⟨by decide +kernel, by decide +kernel⟩, List.mem_of_getElem? (i := 546) (by decide +kernel), List.mem_of_getElem? (i := 690) (by decide +kernel), List.mem_of_getElem? (i := 691) (by decide +kernel)⟩
theorem lw_p12 : lw_okq (⟨"AskTrustModel", "answer", "(II)I"⟩, 26) := ⟨⟨by decide +kernel, by decide +kernel⟩, List.mem_of_getElem? (i := 546) (by decide +kernel), List.mem_of_getElem? (i := 694) (by decide +kernel), List.mem_of_getElem? (i := 695) (by decide +kernel)⟩
theorem lw_p13 : lw_okq (⟨"AskTrustModel", "isLet", "(II)Z"⟩, 26) := ⟨⟨by decide +kernel, by decide +kernel⟩, List.mem_of_getElem? (i := 546) (by decide +kernel), List.mem_of_getElem? (i := 698) (by decide +kernel), List.mem_of_getElem? (i := 699) (by decide +kernel)⟩
theorem lw_p14 : lw_okq (⟨"AskTrustModel", "decides", "(II)I"⟩, 26) := ⟨⟨by decide +kernel, by decide +kernel⟩, List.mem_of_getElem? (i := 546) (by decide +kernel), List.mem_of_getElem? (i := 702) (by decide +kernel), List.mem_of_getElem? (i := 703) (by decide +kernel)⟩
theorem lw_p15 : lw_okq (⟨"AskTrustModel", "fits", "(II)Z"⟩, 26) := ⟨⟨by decide +kernel, by decide +kernel⟩, List.mem_of_getElem? (i := 546) (by decide +kernel), List.mem_of_getElem? (i := 706) (by decide +kernel), List.mem_of_getElem? (i := 707) (by decide +kernel)⟩
def lw_privs_1 : List (MethodName × Nat) := [(⟨"AskTrust", "sendLetters", "()V"⟩, 11), (⟨"AskTrust", "heapAt", "(I)LAskTrust$Heap;"⟩, 11), (⟨"AskTrust", "codeNow", "(I)I"⟩, 11), (⟨"AskTrust", "answerInForce", "(I)I"⟩, 11), (⟨"AskTrust", "judgeAt", "(I)LAskTrust$Judge;"⟩, 11), (⟨"AskTrust$World", "siftBy", "(LAskTrust$Rule;I)V"⟩, 5), (⟨"AskTrust$World", "leastLetSpot", "(ILAskTrust$Law;)I"⟩, 5), (⟨"AskTrust$World", "isAnyJust", "(II)Z"⟩, 5), (⟨"AskTrustModel", "forgets", "(I)V"⟩, 26), (⟨"AskTrustModel", "changes", "()V"⟩, 26), (⟨"AskTrustModel", "factsOf", "(I)I"⟩, 26), (⟨"AskTrustModel", "value", "(II)I"⟩, 26), (⟨"AskTrustModel", "answer", "(II)I"⟩, 26), (⟨"AskTrustModel", "isLet", "(II)Z"⟩, 26), (⟨"AskTrustModel", "decides", "(II)I"⟩, 26), (⟨"AskTrustModel", "fits", "(II)Z"⟩, 26)]
theorem lw_r1 : ∀ q ∈ lw_privs_1, lw_okq q := List.forall_mem_cons.mpr ⟨lw_p0, List.forall_mem_cons.mpr ⟨lw_p1, List.forall_mem_cons.mpr ⟨lw_p2, List.forall_mem_cons.mpr ⟨lw_p3, List.forall_mem_cons.mpr ⟨lw_p4, List.forall_mem_cons.mpr ⟨lw_p5, List.forall_mem_cons.mpr ⟨lw_p6, List.forall_mem_cons.mpr ⟨lw_p7, List.forall_mem_cons.mpr ⟨lw_p8, List.forall_mem_cons.mpr ⟨lw_p9, List.forall_mem_cons.mpr ⟨lw_p10, List.forall_mem_cons.mpr ⟨lw_p11, List.forall_mem_cons.mpr ⟨lw_p12, List.forall_mem_cons.mpr ⟨lw_p13, List.forall_mem_cons.mpr ⟨lw_p14, List.forall_mem_cons.mpr ⟨lw_p15, fun _ h => absurd h List.not_mem_nil⟩⟩⟩⟩⟩⟩⟩⟩⟩⟩⟩⟩⟩⟩⟩⟩
theorem lw_p16 : lw_okq (⟨"AskTrustModel", "sure", "(I)I"⟩, 26) := ⟨⟨by decide +kernel, by decide +kernel⟩, List.mem_of_getElem? (i := 546) (by decide +kernel), List.mem_of_getElem? (i := 716) (by decide +kernel), List.mem_of_getElem? (i := 717) (by decide +kernel)⟩
theorem lw_p17 : lw_okq (⟨"AskTrustModel", "logs", "(III)I"⟩, 26) := ⟨⟨by decide +kernel, by decide +kernel⟩, List.mem_of_getElem? (i := 546) (by decide +kernel), List.mem_of_getElem? (i := 720) (by decide +kernel), List.mem_of_getElem? (i := 721) (by decide +kernel)⟩
theorem lw_p18 : lw_okq (⟨"AskTrustModel", "isRule", "(II)Z"⟩, 26) := ⟨⟨by decide +kernel, by decide +kernel⟩, List.mem_of_getElem? (i := 546) (by decide +kernel), List.mem_of_getElem? (i := 760) (by decide +kernel), List.mem_of_getElem? (i := 761) (by decide +kernel)⟩
def lw_privs_2 : List (MethodName × Nat) := [(⟨"AskTrustModel", "sure", "(I)I"⟩, 26), (⟨"AskTrustModel", "logs", "(III)I"⟩, 26), (⟨"AskTrustModel", "isRule", "(II)Z"⟩, 26)]
theorem lw_r2 : ∀ q ∈ lw_privs_2, lw_okq q := List.forall_mem_cons.mpr ⟨lw_p16, List.forall_mem_cons.mpr ⟨lw_p17, List.forall_mem_cons.mpr ⟨lw_p18, fun _ h => absurd h List.not_mem_nil⟩⟩⟩
def lw_privs : List (MethodName × Nat) := lw_privs_1 ++ (lw_privs_2)
def lw_tbl : List Cond := k2_sels lw_privs ++ tables_1
theorem lw_privs_ok : ∀ q ∈ lw_privs, lw_okq q := by
  show ∀ q ∈ lw_privs_1 ++ (lw_privs_2), lw_okq q
  exact List.forall_mem_append.mpr ⟨lw_r1, lw_r2⟩
def RX0 : String := "AskTrust$Diary"
def TX0 : u_T := fun k => match k with
  | 0 => ("AskTrust$Diary", "columns", "[[I", true)
  | 1 => ("AskTrust$Diary", "size", "I", false)
  | _ => ("AskTrust$Diary", "letSize", "I", false)
def tyX0 : Nat → FieldType := fun k => match k with
  | 0 => .array (.array .int)
  | 1 => .int
  | _ => .int
abbrev wsX00 : List Cond := u_ws RX0 TX0 3
theorem nmX0 : ∀ a, a < 3 → ∀ b, b < 3 → a ≠ b → (TX0 a).2.1 ≠ (TX0 b).2.1 := by decide +kernel
theorem tyX0_ok : ∀ k, k < 3 → parseFieldDescriptor (TX0 k).2.2.1 = some (tyX0 k) := by decide +kernel
abbrev cX0_init : ByteArray := prog_2_method_1_code
def yX0_init : MethodName := ⟨RX0, "<init>", "()V"⟩
abbrev cX0_isFull : ByteArray := prog_2_method_2_code
def yX0_isFull : MethodName := ⟨RX0, "isFull", "()Z"⟩
abbrev cX0_write : ByteArray := prog_2_method_3_code
def yX0_write : MethodName := ⟨RX0, "write", "(IIIII)V"⟩
abbrev cX0_read : ByteArray := prog_2_method_4_code
def yX0_read : MethodName := ⟨RX0, "read", "(II)I"⟩
def RX1 : String := "AskTrust$Heap"
def TX1 : u_T := fun k => match k with
  | 0 => ("AskTrust$Heap", "rules", "[LAskTrust$Rule;", true)
  | _ => ("AskTrust$Heap", "size", "I", false)
def tyX1 : Nat → FieldType := fun k => match k with
  | 0 => .array (.object "AskTrust$Rule")
  | _ => .int
abbrev wsX10 : List Cond := u_ws RX1 TX1 2
theorem nmX1 : ∀ a, a < 2 → ∀ b, b < 2 → a ≠ b → (TX1 a).2.1 ≠ (TX1 b).2.1 := by decide +kernel
theorem tyX1_ok : ∀ k, k < 2 → parseFieldDescriptor (TX1 k).2.2.1 = some (tyX1 k) := by decide +kernel
abbrev cX1_init : ByteArray := prog_3_method_1_code
def yX1_init : MethodName := ⟨RX1, "<init>", "()V"⟩
abbrev cX1_isFull : ByteArray := prog_3_method_2_code
def yX1_isFull : MethodName := ⟨RX1, "isFull", "()Z"⟩
abbrev cX1_append : ByteArray := prog_3_method_3_code
def yX1_append : MethodName := ⟨RX1, "append", "(LAskTrust$Rule;)V"⟩
abbrev cX1_drop : ByteArray := prog_3_method_4_code
def yX1_drop : MethodName := ⟨RX1, "drop", "(I)Z"⟩
abbrev cX1_ruleAt : ByteArray := prog_3_method_5_code
def yX1_ruleAt : MethodName := ⟨RX1, "ruleAt", "(I)LAskTrust$Rule;"⟩
abbrev cX1_firstFit : ByteArray := prog_3_method_6_code
def yX1_firstFit : MethodName := ⟨RX1, "firstFit", "(ILAskTrust$Marks;)I"⟩
abbrev cX1_isLet : ByteArray := prog_3_method_7_code
def yX1_isLet : MethodName := ⟨RX1, "isLet", "(ILAskTrust$Marks;)Z"⟩
def RX2 : String := "AskTrust$Judge"
def TX2 : u_T := fun k => match k with
  | 0 => ("AskTrust$Judge", "span", "I", false)
  | 1 => ("AskTrust$Judge", "way", "I", false)
  | 2 => ("AskTrust$Judge", "letters", "I", false)
  | _ => ("AskTrust$Judge", "latest", "LAskTrust$Kept;", false)
def tyX2 : Nat → FieldType := fun k => match k with
  | 0 => .int
  | 1 => .int
  | 2 => .int
  | _ => .object "AskTrust$Kept"
abbrev wsX20 : List Cond := u_ws RX2 TX2 4
theorem nmX2 : ∀ a, a < 4 → ∀ b, b < 4 → a ≠ b → (TX2 a).2.1 ≠ (TX2 b).2.1 := by decide +kernel
theorem tyX2_ok : ∀ k, k < 4 → parseFieldDescriptor (TX2 k).2.2.1 = some (tyX2 k) := by decide +kernel
abbrev cX2_init : ByteArray := prog_4_method_1_code
def yX2_init : MethodName := ⟨RX2, "<init>", "()V"⟩
abbrev cX2_sendLetter : ByteArray := prog_4_method_2_code
def yX2_sendLetter : MethodName := ⟨RX2, "sendLetter", "()V"⟩
abbrev cX2_letPass : ByteArray := prog_4_method_3_code
def yX2_letPass : MethodName := ⟨RX2, "letPass", "(I)V"⟩
abbrev cX2_keptFor : ByteArray := prog_4_method_4_code
def yX2_keptFor : MethodName := ⟨RX2, "keptFor", "(I)LAskTrust$Kept;"⟩
abbrev cX2_keepMore : ByteArray := prog_4_method_5_code
def yX2_keepMore : MethodName := ⟨RX2, "keepMore", "(I)LAskTrust$Kept;"⟩
abbrev cX2_couldTell : ByteArray := prog_4_method_6_code
def yX2_couldTell : MethodName := ⟨RX2, "couldTell", "(LAskTrust$Kept;I)Z"⟩
abbrev cX2_tellable : ByteArray := prog_4_method_7_code
def yX2_tellable : MethodName := ⟨RX2, "tellable", "(I)I"⟩
def RX3 : String := "AskTrust$Kept"
def TX3 : u_T := fun k => match k with
  | 0 => ("AskTrust$Kept", "who", "I", true)
  | 1 => ("AskTrust$Kept", "before", "LAskTrust$Kept;", true)
  | 2 => ("AskTrust$Kept", "made", "I", false)
  | _ => ("AskTrust$Kept", "answer", "I", false)
def tyX3 : Nat → FieldType := fun k => match k with
  | 0 => .int
  | 1 => .object "AskTrust$Kept"
  | 2 => .int
  | _ => .int
abbrev wsX30 : List Cond := u_ws RX3 TX3 4
theorem nmX3 : ∀ a, a < 4 → ∀ b, b < 4 → a ≠ b → (TX3 a).2.1 ≠ (TX3 b).2.1 := by decide +kernel
theorem tyX3_ok : ∀ k, k < 4 → parseFieldDescriptor (TX3 k).2.2.1 = some (tyX3 k) := by decide +kernel
abbrev cX3_init : ByteArray := prog_5_method_1_code
def yX3_init : MethodName := ⟨RX3, "<init>", "(ILAskTrust$Kept;)V"⟩
def RX4 : String := "AskTrust$Law"
def TX4 : u_T := fun k => match k with
  | 0 => ("AskTrust$Law", "kind", "I", true)
  | 1 => ("AskTrust$Law", "worth", "I", true)
  | 2 => ("AskTrust$Law", "role", "I", true)
  | 3 => ("AskTrust$Law", "sort", "I", true)
  | _ => ("AskTrust$Law", "value", "I", true)
def tyX4 : Nat → FieldType := fun k => match k with
  | 0 => .int
  | 1 => .int
  | 2 => .int
  | 3 => .int
  | _ => .int
abbrev wsX40 : List Cond := u_ws RX4 TX4 5
theorem nmX4 : ∀ a, a < 5 → ∀ b, b < 5 → a ≠ b → (TX4 a).2.1 ≠ (TX4 b).2.1 := by decide +kernel
theorem tyX4_ok : ∀ k, k < 5 → parseFieldDescriptor (TX4 k).2.2.1 = some (tyX4 k) := by decide +kernel
abbrev cX4_init : ByteArray := prog_6_method_1_code
def yX4_init : MethodName := ⟨RX4, "<init>", "(I)V"⟩
abbrev cX4_canBe : ByteArray := prog_6_method_2_code
def yX4_canBe : MethodName := ⟨RX4, "canBe", "(I)Z"⟩
abbrev cX4_missesRole : ByteArray := prog_6_method_3_code
def yX4_missesRole : MethodName := ⟨RX4, "missesRole", "(I)Z"⟩
abbrev cX4_missesMark : ByteArray := prog_6_method_4_code
def yX4_missesMark : MethodName := ⟨RX4, "missesMark", "(I)Z"⟩
def RX5 : String := "AskTrust$Marks"
def TX5 : u_T := fun k => match k with
  | 0 => ("AskTrust$Marks", "value", "[[I", true)
  | 1 => ("AskTrust$Marks", "tick", "[[I", true)
  | 2 => ("AskTrust$Marks", "limit", "[I", true)
  | _ => ("AskTrust$Marks", "weight", "[I", true)
def tyX5 : Nat → FieldType := fun k => match k with
  | 0 => .array (.array .int)
  | 1 => .array (.array .int)
  | 2 => .array .int
  | _ => .array .int
abbrev wsX50 : List Cond := u_ws RX5 TX5 4
theorem nmX5 : ∀ a, a < 4 → ∀ b, b < 4 → a ≠ b → (TX5 a).2.1 ≠ (TX5 b).2.1 := by decide +kernel
theorem tyX5_ok : ∀ k, k < 4 → parseFieldDescriptor (TX5 k).2.2.1 = some (tyX5 k) := by decide +kernel
abbrev cX5_init : ByteArray := prog_7_method_1_code
def yX5_init : MethodName := ⟨RX5, "<init>", "()V"⟩
abbrev cX5_tell : ByteArray := prog_7_method_2_code
def yX5_tell : MethodName := ⟨RX5, "tell", "(IIII)V"⟩
abbrev cX5_regulate : ByteArray := prog_7_method_3_code
def yX5_regulate : MethodName := ⟨RX5, "regulate", "(III)V"⟩
abbrev cX5_valueOf : ByteArray := prog_7_method_4_code
def yX5_valueOf : MethodName := ⟨RX5, "valueOf", "(III)I"⟩
abbrev cX5_sureOf : ByteArray := prog_7_method_5_code
def yX5_sureOf : MethodName := ⟨RX5, "sureOf", "(I)I"⟩
def RX6 : String := "AskTrust$Rule"
def TX6 : u_T := fun k => match k with
  | 0 => ("AskTrust$Rule", "roles", "I", true)
  | 1 => ("AskTrust$Rule", "sort", "I", true)
  | 2 => ("AskTrust$Rule", "value", "I", true)
  | 3 => ("AskTrust$Rule", "sure", "I", true)
  | 4 => ("AskTrust$Rule", "places", "I", true)
  | 5 => ("AskTrust$Rule", "kinds", "I", true)
  | 6 => ("AskTrust$Rule", "least", "I", true)
  | 7 => ("AskTrust$Rule", "most", "I", true)
  | _ => ("AskTrust$Rule", "says", "I", true)
def tyX6 : Nat → FieldType := fun k => match k with
  | 0 => .int
  | 1 => .int
  | 2 => .int
  | 3 => .int
  | 4 => .int
  | 5 => .int
  | 6 => .int
  | 7 => .int
  | _ => .int
abbrev wsX60 : List Cond := u_ws RX6 TX6 9
theorem nmX6 : ∀ a, a < 9 → ∀ b, b < 9 → a ≠ b → (TX6 a).2.1 ≠ (TX6 b).2.1 := by decide +kernel
theorem tyX6_ok : ∀ k, k < 9 → parseFieldDescriptor (TX6 k).2.2.1 = some (tyX6 k) := by decide +kernel
abbrev cX6_init : ByteArray := prog_8_method_1_code
def yX6_init : MethodName := ⟨RX6, "<init>", "(III)V"⟩
abbrev cX6_canBe : ByteArray := prog_8_method_2_code
def yX6_canBe : MethodName := ⟨RX6, "canBe", "(III)Z"⟩
abbrev cX6_canAsk : ByteArray := prog_8_method_3_code
def yX6_canAsk : MethodName := ⟨RX6, "canAsk", "(I)Z"⟩
abbrev cX6_canStand : ByteArray := prog_8_method_4_code
def yX6_canStand : MethodName := ⟨RX6, "canStand", "(I)Z"⟩
abbrev cX6_fits : ByteArray := prog_8_method_5_code
def yX6_fits : MethodName := ⟨RX6, "fits", "(II)Z"⟩
abbrev cX6_fitsRoles : ByteArray := prog_8_method_6_code
def yX6_fitsRoles : MethodName := ⟨RX6, "fitsRoles", "(I)Z"⟩
abbrev cX6_fitsMarks : ByteArray := prog_8_method_7_code
def yX6_fitsMarks : MethodName := ⟨RX6, "fitsMarks", "(II)Z"⟩
abbrev cX6_fitsSpot : ByteArray := prog_8_method_8_code
def yX6_fitsSpot : MethodName := ⟨RX6, "fitsSpot", "(I)Z"⟩
def RX7 : String := "AskTrust$World"
def TX7 : u_T := fun k => match k with
  | 0 => ("AskTrust$World", "byRoles", "[I", true)
  | 1 => ("AskTrust$World", "byMarks", "[I", true)
  | 2 => ("AskTrust$World", "bySpot", "[I", true)
  | 3 => ("AskTrust$World", "sureBy", "[I", true)
  | _ => ("AskTrust$World", "letting", "I", false)
def tyX7 : Nat → FieldType := fun k => match k with
  | 0 => .array .int
  | 1 => .array .int
  | 2 => .array .int
  | 3 => .array .int
  | _ => .int
abbrev wsX70 : List Cond := u_ws RX7 TX7 5
theorem nmX7 : ∀ a, a < 5 → ∀ b, b < 5 → a ≠ b → (TX7 a).2.1 ≠ (TX7 b).2.1 := by decide +kernel
theorem tyX7_ok : ∀ k, k < 5 → parseFieldDescriptor (TX7 k).2.2.1 = some (tyX7 k) := by decide +kernel
abbrev cX7_init : ByteArray := prog_9_method_1_code
def yX7_init : MethodName := ⟨RX7, "<init>", "()V"⟩
abbrev cX7_sift : ByteArray := prog_9_method_2_code
def yX7_sift : MethodName := ⟨RX7, "sift", "(LAskTrust$Heap;LAskTrust$Marks;)V"⟩
abbrev cX7_siftBy : ByteArray := prog_9_method_3_code
def yX7_siftBy : MethodName := ⟨RX7, "siftBy", "(LAskTrust$Rule;I)V"⟩
abbrev cX7_codeOf : ByteArray := prog_9_method_4_code
def yX7_codeOf : MethodName := ⟨RX7, "codeOf", "(III)I"⟩
abbrev cX7_leastBreaking : ByteArray := prog_9_method_5_code
def yX7_leastBreaking : MethodName := ⟨RX7, "leastBreaking", "(LAskTrust$Law;)I"⟩
abbrev cX7_leastLetSpot : ByteArray := prog_9_method_6_code
def yX7_leastLetSpot : MethodName := ⟨RX7, "leastLetSpot", "(ILAskTrust$Law;)I"⟩
abbrev cX7_isEverFirst : ByteArray := prog_9_method_7_code
def yX7_isEverFirst : MethodName := ⟨RX7, "isEverFirst", "(II)Z"⟩
abbrev cX7_isAnyJust : ByteArray := prog_9_method_8_code
def yX7_isAnyJust : MethodName := ⟨RX7, "isAnyJust", "(II)Z"⟩
abbrev cX7_leastFittingAll : ByteArray := prog_9_method_9_code
def yX7_leastFittingAll : MethodName := ⟨RX7, "leastFittingAll", "(I)I"⟩
abbrev cX7_leastWithAll : ByteArray := prog_9_method_10_code
def yX7_leastWithAll : MethodName := ⟨RX7, "leastWithAll", "([II)I"⟩
def RX8 : String := "AskTrust"
def TX8 : u_T := fun k => match k with
  | 0 => ("AskTrust", "rolesOf", "[I", true)
  | 1 => ("AskTrust", "kindOf", "[I", true)
  | 2 => ("AskTrust", "worthOf", "[I", true)
  | 3 => ("AskTrust", "marks", "LAskTrust$Marks;", true)
  | 4 => ("AskTrust", "heaps", "[LAskTrust$Heap;", true)
  | 5 => ("AskTrust", "judges", "[LAskTrust$Judge;", true)
  | 6 => ("AskTrust", "diary", "LAskTrust$Diary;", true)
  | 7 => ("AskTrust", "world", "LAskTrust$World;", true)
  | 8 => ("AskTrust", "now", "I", false)
  | 9 => ("AskTrust", "inForce", "I", false)
  | _ => ("AskTrust", "toldFromKept", "I", false)
def tyX8 : Nat → FieldType := fun k => match k with
  | 0 => .array .int
  | 1 => .array .int
  | 2 => .array .int
  | 3 => .object "AskTrust$Marks"
  | 4 => .array (.object "AskTrust$Heap")
  | 5 => .array (.object "AskTrust$Judge")
  | 6 => .object "AskTrust$Diary"
  | 7 => .object "AskTrust$World"
  | 8 => .int
  | 9 => .int
  | _ => .int
abbrev wsX80 : List Cond := u_ws RX8 TX8 11
theorem nmX8 : ∀ a, a < 11 → ∀ b, b < 11 → a ≠ b → (TX8 a).2.1 ≠ (TX8 b).2.1 := by decide +kernel
theorem tyX8_ok : ∀ k, k < 11 → parseFieldDescriptor (TX8 k).2.2.1 = some (tyX8 k) := by decide +kernel
abbrev cX8_init : ByteArray := prog_1_method_1_code
def yX8_init : MethodName := ⟨RX8, "<init>", "()V"⟩
abbrev cX8_go : ByteArray := prog_1_method_2_code
def yX8_go : MethodName := ⟨RX8, "go", "(I)I"⟩
abbrev cX8_roles : ByteArray := prog_1_method_3_code
def yX8_roles : MethodName := ⟨RX8, "roles", "(II)Z"⟩
abbrev cX8_mark : ByteArray := prog_1_method_4_code
def yX8_mark : MethodName := ⟨RX8, "mark", "(III)Z"⟩
abbrev cX8_thing : ByteArray := prog_1_method_5_code
def yX8_thing : MethodName := ⟨RX8, "thing", "(III)Z"⟩
abbrev cX8_sort : ByteArray := prog_1_method_6_code
def yX8_sort : MethodName := ⟨RX8, "sort", "(III)Z"⟩
abbrev cX8_rule : ByteArray := prog_1_method_7_code
def yX8_rule : MethodName := ⟨RX8, "rule", "(IIII)I"⟩
abbrev cX8_unrule : ByteArray := prog_1_method_8_code
def yX8_unrule : MethodName := ⟨RX8, "unrule", "(II)Z"⟩
abbrev cX8_ask : ByteArray := prog_1_method_9_code
def yX8_ask : MethodName := ⟨RX8, "ask", "(I)I"⟩
abbrev cX8_behalf : ByteArray := prog_1_method_10_code
def yX8_behalf : MethodName := ⟨RX8, "behalf", "(II)I"⟩
abbrev cX8_why : ByteArray := prog_1_method_11_code
def yX8_why : MethodName := ⟨RX8, "why", "(II)I"⟩
abbrev cX8_facts : ByteArray := prog_1_method_12_code
def yX8_facts : MethodName := ⟨RX8, "facts", "(I)I"⟩
abbrev cX8_judge : ByteArray := prog_1_method_13_code
def yX8_judge : MethodName := ⟨RX8, "judge", "(III)Z"⟩
abbrev cX8_judged : ByteArray := prog_1_method_14_code
def yX8_judged : MethodName := ⟨RX8, "judged", "(II)I"⟩
abbrev cX8_keeps : ByteArray := prog_1_method_15_code
def yX8_keeps : MethodName := ⟨RX8, "keeps", "(I)I"⟩
abbrev cX8_law : ByteArray := prog_1_method_16_code
def yX8_law : MethodName := ⟨RX8, "law", "(II)I"⟩
abbrev cX8_idle : ByteArray := prog_1_method_17_code
def yX8_idle : MethodName := ⟨RX8, "idle", "(II)Z"⟩
abbrev cX8_quarrel : ByteArray := prog_1_method_18_code
def yX8_quarrel : MethodName := ⟨RX8, "quarrel", "(III)I"⟩
abbrev cX8_log : ByteArray := prog_1_method_19_code
def yX8_log : MethodName := ⟨RX8, "log", "(II)I"⟩
abbrev cX8_lost : ByteArray := prog_1_method_20_code
def yX8_lost : MethodName := ⟨RX8, "lost", "()I"⟩
abbrev cX8_move : ByteArray := prog_1_method_21_code
def yX8_move : MethodName := ⟨RX8, "move", "(Z)Z"⟩
abbrev cX8_count : ByteArray := prog_1_method_22_code
def yX8_count : MethodName := ⟨RX8, "count", "(I)I"⟩
abbrev cX8_isWithin : ByteArray := prog_1_method_23_code
def yX8_isWithin : MethodName := ⟨RX8, "isWithin", "(II)Z"⟩
abbrev cX8_isBelow : ByteArray := prog_1_method_24_code
def yX8_isBelow : MethodName := ⟨RX8, "isBelow", "(II)Z"⟩
abbrev cX8_isAsk : ByteArray := prog_1_method_25_code
def yX8_isAsk : MethodName := ⟨RX8, "isAsk", "(I)Z"⟩
abbrev cX8_hasBit : ByteArray := prog_1_method_26_code
def yX8_hasBit : MethodName := ⟨RX8, "hasBit", "(II)Z"⟩
abbrev cX8_rolesIn : ByteArray := prog_1_method_27_code
def yX8_rolesIn : MethodName := ⟨RX8, "rolesIn", "(I)I"⟩
abbrev cX8_marksIn : ByteArray := prog_1_method_28_code
def yX8_marksIn : MethodName := ⟨RX8, "marksIn", "(I)I"⟩
abbrev cX8_spotIn : ByteArray := prog_1_method_29_code
def yX8_spotIn : MethodName := ⟨RX8, "spotIn", "(I)I"⟩
abbrev cX8_valueIn : ByteArray := prog_1_method_30_code
def yX8_valueIn : MethodName := ⟨RX8, "valueIn", "(II)I"⟩
abbrev cX8_heapAt : ByteArray := prog_1_method_31_code
def yX8_heapAt : MethodName := ⟨RX8, "heapAt", "(I)LAskTrust$Heap;"⟩
abbrev cX8_judgeAt : ByteArray := prog_1_method_32_code
def yX8_judgeAt : MethodName := ⟨RX8, "judgeAt", "(I)LAskTrust$Judge;"⟩
abbrev cX8_sendLetters : ByteArray := prog_1_method_33_code
def yX8_sendLetters : MethodName := ⟨RX8, "sendLetters", "()V"⟩
abbrev cX8_codeNow : ByteArray := prog_1_method_34_code
def yX8_codeNow : MethodName := ⟨RX8, "codeNow", "(I)I"⟩
abbrev cX8_answerInForce : ByteArray := prog_1_method_35_code
def yX8_answerInForce : MethodName := ⟨RX8, "answerInForce", "(I)I"⟩
def RX9 : String := "AskTrustModel"
def TX9 : u_T := fun k => match k with
  | 0 => ("AskTrustModel", "now", "I", false)
  | 1 => ("AskTrustModel", "roles", "[I", true)
  | 2 => ("AskTrustModel", "markValue", "[I", true)
  | 3 => ("AskTrustModel", "markAt", "[I", true)
  | 4 => ("AskTrustModel", "limit", "[I", true)
  | 5 => ("AskTrustModel", "weight", "[I", true)
  | 6 => ("AskTrustModel", "kind", "[I", true)
  | 7 => ("AskTrustModel", "worth", "[I", true)
  | 8 => ("AskTrustModel", "rules", "[I", true)
  | 9 => ("AskTrustModel", "ruleWhat", "[I", true)
  | 10 => ("AskTrustModel", "ruleWhere", "[I", true)
  | 11 => ("AskTrustModel", "ruleSays", "[I", true)
  | 12 => ("AskTrustModel", "heap", "I", false)
  | 13 => ("AskTrustModel", "span", "[I", true)
  | 14 => ("AskTrustModel", "way", "[I", true)
  | 15 => ("AskTrustModel", "madeAt", "[I", true)
  | 16 => ("AskTrustModel", "made", "[I", true)
  | 17 => ("AskTrustModel", "comes", "[Z", true)
  | 18 => ("AskTrustModel", "asks", "I", false)
  | 19 => ("AskTrustModel", "logAt", "[I", true)
  | 20 => ("AskTrustModel", "logWho", "[I", true)
  | 21 => ("AskTrustModel", "logFacts", "[I", true)
  | 22 => ("AskTrustModel", "logAnswer", "[I", true)
  | 23 => ("AskTrustModel", "logFor", "[I", true)
  | 24 => ("AskTrustModel", "lets", "I", false)
  | _ => ("AskTrustModel", "keptTold", "I", false)
def tyX9 : Nat → FieldType := fun k => match k with
  | 0 => .int
  | 1 => .array .int
  | 2 => .array .int
  | 3 => .array .int
  | 4 => .array .int
  | 5 => .array .int
  | 6 => .array .int
  | 7 => .array .int
  | 8 => .array .int
  | 9 => .array .int
  | 10 => .array .int
  | 11 => .array .int
  | 12 => .int
  | 13 => .array .int
  | 14 => .array .int
  | 15 => .array .int
  | 16 => .array .int
  | 17 => .array .boolean
  | 18 => .int
  | 19 => .array .int
  | 20 => .array .int
  | 21 => .array .int
  | 22 => .array .int
  | 23 => .array .int
  | 24 => .int
  | _ => .int
abbrev wsX90 : List Cond := u_ws RX9 TX9 26
theorem nmX9 : ∀ a, a < 26 → ∀ b, b < 26 → a ≠ b → (TX9 a).2.1 ≠ (TX9 b).2.1 := by decide +kernel
theorem tyX9_ok : ∀ k, k < 26 → parseFieldDescriptor (TX9 k).2.2.1 = some (tyX9 k) := by decide +kernel
abbrev cX9_init : ByteArray := prog_11_method_1_code
def yX9_init : MethodName := ⟨RX9, "<init>", "()V"⟩
abbrev cX9_in : ByteArray := prog_11_method_2_code
def yX9_in : MethodName := ⟨RX9, "in", "(III)Z"⟩
abbrev cX9_isOne : ByteArray := prog_11_method_3_code
def yX9_isOne : MethodName := ⟨RX9, "isOne", "(I)Z"⟩
abbrev cX9_isHeap : ByteArray := prog_11_method_4_code
def yX9_isHeap : MethodName := ⟨RX9, "isHeap", "(I)Z"⟩
abbrev cX9_isJudge : ByteArray := prog_11_method_5_code
def yX9_isJudge : MethodName := ⟨RX9, "isJudge", "(I)Z"⟩
abbrev cX9_forgets : ByteArray := prog_11_method_6_code
def yX9_forgets : MethodName := ⟨RX9, "forgets", "(I)V"⟩
abbrev cX9_changes : ByteArray := prog_11_method_7_code
def yX9_changes : MethodName := ⟨RX9, "changes", "()V"⟩
abbrev cX9_go : ByteArray := prog_11_method_8_code
def yX9_go : MethodName := ⟨RX9, "go", "(I)I"⟩
abbrev cX9_roles : ByteArray := prog_11_method_9_code
def yX9_roles : MethodName := ⟨RX9, "roles", "(II)Z"⟩
abbrev cX9_mark : ByteArray := prog_11_method_10_code
def yX9_mark : MethodName := ⟨RX9, "mark", "(III)Z"⟩
abbrev cX9_thing : ByteArray := prog_11_method_11_code
def yX9_thing : MethodName := ⟨RX9, "thing", "(III)Z"⟩
abbrev cX9_sort : ByteArray := prog_11_method_12_code
def yX9_sort : MethodName := ⟨RX9, "sort", "(III)Z"⟩
abbrev cX9_rule : ByteArray := prog_11_method_13_code
def yX9_rule : MethodName := ⟨RX9, "rule", "(IIII)I"⟩
abbrev cX9_unrule : ByteArray := prog_11_method_14_code
def yX9_unrule : MethodName := ⟨RX9, "unrule", "(II)Z"⟩
abbrev cX9_value : ByteArray := prog_11_method_15_code
def yX9_value : MethodName := ⟨RX9, "value", "(II)I"⟩
abbrev cX9_isAsk : ByteArray := prog_11_method_16_code
def yX9_isAsk : MethodName := ⟨RX9, "isAsk", "(I)Z"⟩
abbrev cX9_factsOf : ByteArray := prog_11_method_17_code
def yX9_factsOf : MethodName := ⟨RX9, "factsOf", "(I)I"⟩
abbrev cX9_rolesOf : ByteArray := prog_11_method_18_code
def yX9_rolesOf : MethodName := ⟨RX9, "rolesOf", "(I)I"⟩
abbrev cX9_markOf : ByteArray := prog_11_method_19_code
def yX9_markOf : MethodName := ⟨RX9, "markOf", "(II)I"⟩
abbrev cX9_sure : ByteArray := prog_11_method_20_code
def yX9_sure : MethodName := ⟨RX9, "sure", "(I)I"⟩
abbrev cX9_fits : ByteArray := prog_11_method_21_code
def yX9_fits : MethodName := ⟨RX9, "fits", "(II)Z"⟩
abbrev cX9_decides : ByteArray := prog_11_method_22_code
def yX9_decides : MethodName := ⟨RX9, "decides", "(II)I"⟩
abbrev cX9_isLet : ByteArray := prog_11_method_23_code
def yX9_isLet : MethodName := ⟨RX9, "isLet", "(II)Z"⟩
abbrev cX9_answer : ByteArray := prog_11_method_24_code
def yX9_answer : MethodName := ⟨RX9, "answer", "(II)I"⟩
abbrev cX9_logs : ByteArray := prog_11_method_25_code
def yX9_logs : MethodName := ⟨RX9, "logs", "(III)I"⟩
abbrev cX9_ask : ByteArray := prog_11_method_26_code
def yX9_ask : MethodName := ⟨RX9, "ask", "(I)I"⟩
abbrev cX9_behalf : ByteArray := prog_11_method_27_code
def yX9_behalf : MethodName := ⟨RX9, "behalf", "(II)I"⟩
abbrev cX9_why : ByteArray := prog_11_method_28_code
def yX9_why : MethodName := ⟨RX9, "why", "(II)I"⟩
abbrev cX9_facts : ByteArray := prog_11_method_29_code
def yX9_facts : MethodName := ⟨RX9, "facts", "(I)I"⟩
abbrev cX9_judge : ByteArray := prog_11_method_30_code
def yX9_judge : MethodName := ⟨RX9, "judge", "(III)Z"⟩
abbrev cX9_judged : ByteArray := prog_11_method_31_code
def yX9_judged : MethodName := ⟨RX9, "judged", "(II)I"⟩
abbrev cX9_keeps : ByteArray := prog_11_method_32_code
def yX9_keeps : MethodName := ⟨RX9, "keeps", "(I)I"⟩
abbrev cX9_law : ByteArray := prog_11_method_33_code
def yX9_law : MethodName := ⟨RX9, "law", "(II)I"⟩
abbrev cX9_isRule : ByteArray := prog_11_method_34_code
def yX9_isRule : MethodName := ⟨RX9, "isRule", "(II)Z"⟩
abbrev cX9_idle : ByteArray := prog_11_method_35_code
def yX9_idle : MethodName := ⟨RX9, "idle", "(II)Z"⟩
abbrev cX9_quarrel : ByteArray := prog_11_method_36_code
def yX9_quarrel : MethodName := ⟨RX9, "quarrel", "(III)I"⟩
abbrev cX9_log : ByteArray := prog_11_method_37_code
def yX9_log : MethodName := ⟨RX9, "log", "(II)I"⟩
abbrev cX9_lost : ByteArray := prog_11_method_38_code
def yX9_lost : MethodName := ⟨RX9, "lost", "()I"⟩
abbrev cX9_move : ByteArray := prog_11_method_39_code
def yX9_move : MethodName := ⟨RX9, "move", "(Z)Z"⟩
abbrev cX9_count : ByteArray := prog_11_method_40_code
def yX9_count : MethodName := ⟨RX9, "count", "(I)I"⟩
def RJ9 : String := "java/lang/Math"
def TJ9 : u_T := fun k => match k with
  | _ => ("", "", "", false)
def tyJ9 : Nat → FieldType := fun k => match k with
  | _ => .int
abbrev cJ9_max_7cf53 : ByteArray := prog_12_method_65_code
def yJ9_max_7cf53 : MethodName := ⟨RJ9, "max", "(II)I"⟩
abbrev cJ9_min_7cf53 : ByteArray := prog_12_method_69_code
def yJ9_min_7cf53 : MethodName := ⟨RJ9, "min", "(II)I"⟩
def RJ7 : String := "java/util/Arrays"
def TJ7 : u_T := fun k => match k with
  | _ => ("", "", "", false)
def tyJ7 : Nat → FieldType := fun k => match k with
  | _ => .int
abbrev cJ7_fill_53178 : ByteArray := prog_13_method_103_code
def yJ7_fill_53178 : MethodName := ⟨RJ7, "fill", "([II)V"⟩
def RL : String := "AskTrustLaw"
abbrev cL_law : ByteArray := code
def yL_law : MethodName := ⟨RL, "law", "([I)Z"⟩
abbrev vwCl : List vw_C := [(RX0, TX0, 3), (RX1, TX1, 2), (RX2, TX2, 4), (RX3, TX3, 4), (RX4, TX4, 5), (RX5, TX5, 4), (RX6, TX6, 9), (RX7, TX7, 5), (RX8, TX8, 11), (RX9, TX9, 26)]
