-- ===== PART A: goes FIRST, ahead of the names: the tables' words, and 'selects' of the private methods out of them =====
/-- a private method of a class that the tables say can be made, by its rows of tables_1 -/
def lw_okq (q : MethodName × Nat) : Prop := (q.1.cls ≠ "java/lang/invoke/MethodHandle" ∧ q.1.cls ≠ "java/lang/invoke/VarHandle") ∧ Cond.instantiable q.1.cls q.2 ∈ tables_1 ∧ Cond.privateMethod q.1 ∈ tables_1 ∧ Cond.instanceMethod q.1 ∈ tables_1
theorem lw_p0 : lw_okq (⟨"ClearingBooks", "makeTransfers", "()V"⟩, 12) := ⟨⟨by decide +kernel, by decide +kernel⟩, List.mem_of_getElem? (i := 10) (by decide +kernel), List.mem_of_getElem? (i := 61) (by decide +kernel), List.mem_of_getElem? (i := 62) (by decide +kernel)⟩
theorem lw_p1 : lw_okq (⟨"ClearingBooks", "leastOpen", "()I"⟩, 12) := ⟨⟨by decide +kernel, by decide +kernel⟩, List.mem_of_getElem? (i := 10) (by decide +kernel), List.mem_of_getElem? (i := 65) (by decide +kernel), List.mem_of_getElem? (i := 66) (by decide +kernel)⟩
theorem lw_p2 : lw_okq (⟨"ClearingBooks", "greatestOpen", "()I"⟩, 12) := ⟨⟨by decide +kernel, by decide +kernel⟩, List.mem_of_getElem? (i := 10) (by decide +kernel), List.mem_of_getElem? (i := 69) (by decide +kernel), List.mem_of_getElem? (i := 70) (by decide +kernel)⟩
theorem lw_p3 : lw_okq (⟨"ClearingBooks", "makeTransfer", "(III)V"⟩, 12) := ⟨⟨by decide +kernel, by decide +kernel⟩, List.mem_of_getElem? (i := 10) (by decide +kernel), List.mem_of_getElem? (i := 73) (by decide +kernel), List.mem_of_getElem? (i := 74) (by decide +kernel)⟩
theorem lw_p4 : lw_okq (⟨"ClearingBooks", "sumOf", "([J)J"⟩, 12) := ⟨⟨by decide +kernel, by decide +kernel⟩, List.mem_of_getElem? (i := 10) (by decide +kernel), List.mem_of_getElem? (i := 88) (by decide +kernel), List.mem_of_getElem? (i := 89) (by decide +kernel)⟩
theorem lw_p5 : lw_okq (⟨"ClearingBooks", "enter", "(II)I"⟩, 12) := ⟨⟨by decide +kernel, by decide +kernel⟩, List.mem_of_getElem? (i := 10) (by decide +kernel), List.mem_of_getElem? (i := 101) (by decide +kernel), List.mem_of_getElem? (i := 102) (by decide +kernel)⟩
theorem lw_p6 : lw_okq (⟨"java/lang/Throwable", "fillInStackTrace", "(I)Ljava/lang/Throwable;"⟩, 6) := ⟨⟨by decide +kernel, by decide +kernel⟩, List.mem_of_getElem? (i := 142) (by decide +kernel), List.mem_of_getElem? (i := 140) (by decide +kernel), List.mem_of_getElem? (i := 141) (by decide +kernel)⟩
theorem lw_p7 : lw_okq (⟨"ClearingBooks", "requireKind", "(II)V"⟩, 12) := ⟨⟨by decide +kernel, by decide +kernel⟩, List.mem_of_getElem? (i := 10) (by decide +kernel), List.mem_of_getElem? (i := 202) (by decide +kernel), List.mem_of_getElem? (i := 203) (by decide +kernel)⟩
theorem lw_p8 : lw_okq (⟨"ClearingBooks", "isParty", "(I)Z"⟩, 12) := ⟨⟨by decide +kernel, by decide +kernel⟩, List.mem_of_getElem? (i := 10) (by decide +kernel), List.mem_of_getElem? (i := 206) (by decide +kernel), List.mem_of_getElem? (i := 207) (by decide +kernel)⟩
theorem lw_p9 : lw_okq (⟨"ClearingBooks", "placeOf", "(I)I"⟩, 12) := ⟨⟨by decide +kernel, by decide +kernel⟩, List.mem_of_getElem? (i := 10) (by decide +kernel), List.mem_of_getElem? (i := 263) (by decide +kernel), List.mem_of_getElem? (i := 264) (by decide +kernel)⟩
theorem lw_p10 : lw_okq (⟨"ClearingBooksModel", "come", "(II)I"⟩, 13) := ⟨⟨by decide +kernel, by decide +kernel⟩, List.mem_of_getElem? (i := 268) (by decide +kernel), List.mem_of_getElem? (i := 322) (by decide +kernel), List.mem_of_getElem? (i := 323) (by decide +kernel)⟩
theorem lw_p11 : lw_okq (⟨"ClearingBooksModel", "is", "(II)Z"⟩, 13) := ⟨⟨by decide +kernel, by decide +kernel⟩, List.mem_of_getElem? (i := 268) (by decide +kernel), List.mem_of_getElem? (i := 334) (by decide +kernel), List.mem_of_getElem? (i := 335) (by decide +kernel)⟩
theorem lw_p12 : lw_okq (⟨"ClearingBooksModel", "goes", "(Z)Z"⟩, 13) := ⟨⟨by decide +kernel, by decide +kernel⟩, List.mem_of_getElem? (i := 268) (by decide +kernel), List.mem_of_getElem? (i := 339) (by decide +kernel), List.mem_of_getElem? (i := 340) (by decide +kernel)⟩
def lw_privs_1 : List (MethodName × Nat) := [(⟨"ClearingBooks", "makeTransfers", "()V"⟩, 12), (⟨"ClearingBooks", "leastOpen", "()I"⟩, 12), (⟨"ClearingBooks", "greatestOpen", "()I"⟩, 12), (⟨"ClearingBooks", "makeTransfer", "(III)V"⟩, 12), (⟨"ClearingBooks", "sumOf", "([J)J"⟩, 12), (⟨"ClearingBooks", "enter", "(II)I"⟩, 12), (⟨"java/lang/Throwable", "fillInStackTrace", "(I)Ljava/lang/Throwable;"⟩, 6), (⟨"ClearingBooks", "requireKind", "(II)V"⟩, 12), (⟨"ClearingBooks", "isParty", "(I)Z"⟩, 12), (⟨"ClearingBooks", "placeOf", "(I)I"⟩, 12), (⟨"ClearingBooksModel", "come", "(II)I"⟩, 13), (⟨"ClearingBooksModel", "is", "(II)Z"⟩, 13), (⟨"ClearingBooksModel", "goes", "(Z)Z"⟩, 13)]
theorem lw_r1 : ∀ q ∈ lw_privs_1, lw_okq q := List.forall_mem_cons.mpr ⟨lw_p0, List.forall_mem_cons.mpr ⟨lw_p1, List.forall_mem_cons.mpr ⟨lw_p2, List.forall_mem_cons.mpr ⟨lw_p3, List.forall_mem_cons.mpr ⟨lw_p4, List.forall_mem_cons.mpr ⟨lw_p5, List.forall_mem_cons.mpr ⟨lw_p6, List.forall_mem_cons.mpr ⟨lw_p7, List.forall_mem_cons.mpr ⟨lw_p8, List.forall_mem_cons.mpr ⟨lw_p9, List.forall_mem_cons.mpr ⟨lw_p10, List.forall_mem_cons.mpr ⟨lw_p11, List.forall_mem_cons.mpr ⟨lw_p12, fun _ h => absurd h List.not_mem_nil⟩⟩⟩⟩⟩⟩⟩⟩⟩⟩⟩⟩⟩
def lw_privs : List (MethodName × Nat) := lw_privs_1
def lw_tbl : List Cond := k2_sels lw_privs ++ tables_1
theorem lw_privs_ok : ∀ q ∈ lw_privs, lw_okq q := lw_r1
def T_B : u_T := fun k => match k with
  | 0 => ("ClearingBooks", "partyCount", "I", false)
  | 1 => ("ClearingBooks", "kinds", "[I", true)
  | 2 => ("ClearingBooks", "rates", "[I", true)
  | 3 => ("ClearingBooks", "positions", "[J", true)
  | 4 => ("ClearingBooks", "settled", "[J", true)
  | 5 => ("ClearingBooks", "batchCounts", "[I", true)
  | 6 => ("ClearingBooks", "batchSums", "[J", true)
  | 7 => ("ClearingBooks", "open", "[J", true)
  | 8 => ("ClearingBooks", "transferCount", "I", false)
  | 9 => ("ClearingBooks", "payers", "[I", true)
  | 10 => ("ClearingBooks", "payees", "[I", true)
  | _ => ("ClearingBooks", "payments", "[J", true)
def ty_B : Nat → FieldType := fun k => match k with
  | 0 => .int
  | 1 => .array .int
  | 2 => .array .int
  | 3 => .array .long
  | 4 => .array .long
  | 5 => .array .int
  | 6 => .array .long
  | 7 => .array .long
  | 8 => .int
  | 9 => .array .int
  | 10 => .array .int
  | _ => .array .long
theorem nm_B : ∀ a, a < 12 → ∀ b, b < 12 → a ≠ b → (T_B a).2.1 ≠ (T_B b).2.1 := by decide +kernel
theorem tyok_B : ∀ k, k < 12 → parseFieldDescriptor (T_B k).2.2.1 = some (ty_B k) := by decide +kernel
def T_M : u_T := fun k => match k with
  | 0 => ("ClearingBooksModel", "code", "I", false)
  | 1 => ("ClearingBooksModel", "parties", "I", false)
  | 2 => ("ClearingBooksModel", "kind", "[I", true)
  | 3 => ("ClearingBooksModel", "rate", "[I", true)
  | 4 => ("ClearingBooksModel", "position", "[J", true)
  | 5 => ("ClearingBooksModel", "settled", "[J", true)
  | 6 => ("ClearingBooksModel", "count", "[I", true)
  | 7 => ("ClearingBooksModel", "sum", "[J", true)
  | 8 => ("ClearingBooksModel", "open", "[J", true)
  | 9 => ("ClearingBooksModel", "transfers", "I", false)
  | 10 => ("ClearingBooksModel", "payer", "[I", true)
  | 11 => ("ClearingBooksModel", "payee", "[I", true)
  | _ => ("ClearingBooksModel", "paid", "[J", true)
def ty_M : Nat → FieldType := fun k => match k with
  | 0 => .int
  | 1 => .int
  | 2 => .array .int
  | 3 => .array .int
  | 4 => .array .long
  | 5 => .array .long
  | 6 => .array .int
  | 7 => .array .long
  | 8 => .array .long
  | 9 => .int
  | 10 => .array .int
  | 11 => .array .int
  | _ => .array .long
theorem nm_M : ∀ a, a < 13 → ∀ b, b < 13 → a ≠ b → (T_M a).2.1 ≠ (T_M b).2.1 := by decide +kernel
theorem tyok_M : ∀ k, k < 13 → parseFieldDescriptor (T_M k).2.2.1 = some (ty_M k) := by decide +kernel
abbrev vwCl : List vw_C := [("ClearingBooks", T_B, 12), ("ClearingBooksModel", T_M, 13)]
abbrev b_B_init : ByteArray := prog_1_method_1_code
abbrev y_B_init : MethodName := ⟨"ClearingBooks", "<init>", "()V"⟩
abbrev b_B_settle : ByteArray := prog_1_method_8_code
abbrev y_B_settle : MethodName := ⟨"ClearingBooks", "settle", "()I"⟩
abbrev b_B_makeTransfers : ByteArray := prog_1_method_19_code
abbrev y_B_makeTransfers : MethodName := ⟨"ClearingBooks", "makeTransfers", "()V"⟩
abbrev b_B_leastOpen : ByteArray := prog_1_method_21_code
abbrev y_B_leastOpen : MethodName := ⟨"ClearingBooks", "leastOpen", "()I"⟩
abbrev b_B_greatestOpen : ByteArray := prog_1_method_22_code
abbrev y_B_greatestOpen : MethodName := ⟨"ClearingBooks", "greatestOpen", "()I"⟩
abbrev b_B_makeTransfer : ByteArray := prog_1_method_20_code
abbrev y_B_makeTransfer : MethodName := ⟨"ClearingBooks", "makeTransfer", "(III)V"⟩
abbrev b_B_parties : ByteArray := prog_1_method_11_code
abbrev y_B_parties : MethodName := ⟨"ClearingBooks", "parties", "()I"⟩
abbrev b_B_audit : ByteArray := prog_1_method_12_code
abbrev y_B_audit : MethodName := ⟨"ClearingBooks", "audit", "()I"⟩
abbrev b_B_sumOf : ByteArray := prog_1_method_24_code
abbrev y_B_sumOf : MethodName := ⟨"ClearingBooks", "sumOf", "([J)J"⟩
abbrev b_L_acquirer : ByteArray := method_3_code
abbrev y_L_acquirer : MethodName := ⟨"ClearingBooksLaw", "acquirer", "(LClearingBooks;I[J)I"⟩
abbrev b_B_acquirer : ByteArray := prog_1_method_2_code
abbrev y_B_acquirer : MethodName := ⟨"ClearingBooks", "acquirer", "(I)I"⟩
abbrev b_B_enter : ByteArray := prog_1_method_13_code
abbrev y_B_enter : MethodName := ⟨"ClearingBooks", "enter", "(II)I"⟩
abbrev b_L_issuer : ByteArray := method_4_code
abbrev y_L_issuer : MethodName := ⟨"ClearingBooksLaw", "issuer", "(LClearingBooks;I[J)I"⟩
abbrev b_B_issuer : ByteArray := prog_1_method_3_code
abbrev y_B_issuer : MethodName := ⟨"ClearingBooks", "issuer", "(I)I"⟩
abbrev b_L_clear : ByteArray := method_5_code
abbrev y_L_clear : MethodName := ⟨"ClearingBooksLaw", "clear", "(LClearingBooks;IIJ[J)I"⟩
abbrev b_B_clear : ByteArray := prog_1_method_4_code
abbrev y_B_clear : MethodName := ⟨"ClearingBooks", "clear", "(IIJ)J"⟩
abbrev b_B_requireKind : ByteArray := prog_1_method_15_code
abbrev y_B_requireKind : MethodName := ⟨"ClearingBooks", "requireKind", "(II)V"⟩
abbrev b_B_isParty : ByteArray := prog_1_method_14_code
abbrev y_B_isParty : MethodName := ⟨"ClearingBooks", "isParty", "(I)Z"⟩
abbrev b_B_requireAmount : ByteArray := prog_1_method_16_code
abbrev y_B_requireAmount : MethodName := ⟨"ClearingBooks", "requireAmount", "(JJ)V"⟩
abbrev b_B_partRoundedUp : ByteArray := prog_1_method_18_code
abbrev y_B_partRoundedUp : MethodName := ⟨"ClearingBooks", "partRoundedUp", "(JI)J"⟩
abbrev b_B_partRoundedDown : ByteArray := prog_1_method_17_code
abbrev y_B_partRoundedDown : MethodName := ⟨"ClearingBooks", "partRoundedDown", "(JI)J"⟩
abbrev b_L_back : ByteArray := method_6_code
abbrev y_L_back : MethodName := ⟨"ClearingBooksLaw", "back", "(LClearingBooks;IIJ[J)I"⟩
abbrev b_B_back : ByteArray := prog_1_method_5_code
abbrev y_B_back : MethodName := ⟨"ClearingBooks", "back", "(IIJ)J"⟩
abbrev b_L_reconcile : ByteArray := method_7_code
abbrev y_L_reconcile : MethodName := ⟨"ClearingBooksLaw", "reconcile", "(LClearingBooks;IIJ[J)I"⟩
abbrev b_B_reconcile : ByteArray := prog_1_method_6_code
abbrev y_B_reconcile : MethodName := ⟨"ClearingBooks", "reconcile", "(IIJ)Z"⟩
abbrev b_L_batch : ByteArray := method_8_code
abbrev y_L_batch : MethodName := ⟨"ClearingBooksLaw", "batch", "(LClearingBooks;II[J)I"⟩
abbrev b_B_batch : ByteArray := prog_1_method_7_code
abbrev y_B_batch : MethodName := ⟨"ClearingBooks", "batch", "(II)J"⟩
abbrev b_L_transfer : ByteArray := method_9_code
abbrev y_L_transfer : MethodName := ⟨"ClearingBooksLaw", "transfer", "(LClearingBooks;II[J)I"⟩
abbrev b_B_transfer : ByteArray := prog_1_method_9_code
abbrev y_B_transfer : MethodName := ⟨"ClearingBooks", "transfer", "(II)J"⟩
abbrev b_L_party : ByteArray := method_10_code
abbrev y_L_party : MethodName := ⟨"ClearingBooksLaw", "party", "(LClearingBooks;II[J)I"⟩
abbrev b_B_party : ByteArray := prog_1_method_10_code
abbrev y_B_party : MethodName := ⟨"ClearingBooks", "party", "(II)J"⟩
abbrev b_B_placeOf : ByteArray := prog_1_method_23_code
abbrev y_B_placeOf : MethodName := ⟨"ClearingBooks", "placeOf", "(I)I"⟩
abbrev b_M_init : ByteArray := prog_3_method_1_code
abbrev y_M_init : MethodName := ⟨"ClearingBooksModel", "<init>", "()V"⟩
abbrev b_M_thrown : ByteArray := prog_3_method_2_code
abbrev y_M_thrown : MethodName := ⟨"ClearingBooksModel", "thrown", "()I"⟩
abbrev b_M_acquirer : ByteArray := prog_3_method_6_code
abbrev y_M_acquirer : MethodName := ⟨"ClearingBooksModel", "acquirer", "(I)I"⟩
abbrev b_M_come : ByteArray := prog_3_method_5_code
abbrev y_M_come : MethodName := ⟨"ClearingBooksModel", "come", "(II)I"⟩
abbrev b_M_issuer : ByteArray := prog_3_method_7_code
abbrev y_M_issuer : MethodName := ⟨"ClearingBooksModel", "issuer", "(I)I"⟩
abbrev b_M_clear : ByteArray := prog_3_method_8_code
abbrev y_M_clear : MethodName := ⟨"ClearingBooksModel", "clear", "(IIJ)J"⟩
abbrev b_M_is : ByteArray := prog_3_method_4_code
abbrev y_M_is : MethodName := ⟨"ClearingBooksModel", "is", "(II)Z"⟩
abbrev b_M_goes : ByteArray := prog_3_method_3_code
abbrev y_M_goes : MethodName := ⟨"ClearingBooksModel", "goes", "(Z)Z"⟩
abbrev b_M_back : ByteArray := prog_3_method_9_code
abbrev y_M_back : MethodName := ⟨"ClearingBooksModel", "back", "(IIJ)J"⟩
abbrev b_M_reconcile : ByteArray := prog_3_method_10_code
abbrev y_M_reconcile : MethodName := ⟨"ClearingBooksModel", "reconcile", "(IIJ)Z"⟩
abbrev b_M_batch : ByteArray := prog_3_method_11_code
abbrev y_M_batch : MethodName := ⟨"ClearingBooksModel", "batch", "(II)J"⟩
abbrev b_M_settle : ByteArray := prog_3_method_12_code
abbrev y_M_settle : MethodName := ⟨"ClearingBooksModel", "settle", "()I"⟩
abbrev b_M_transfer : ByteArray := prog_3_method_13_code
abbrev y_M_transfer : MethodName := ⟨"ClearingBooksModel", "transfer", "(II)J"⟩
abbrev b_M_party : ByteArray := prog_3_method_14_code
abbrev y_M_party : MethodName := ⟨"ClearingBooksModel", "party", "(II)J"⟩
abbrev b_M_parties : ByteArray := prog_3_method_15_code
abbrev y_M_parties : MethodName := ⟨"ClearingBooksModel", "parties", "()I"⟩
abbrev b_M_audit : ByteArray := prog_3_method_16_code
abbrev y_M_audit : MethodName := ⟨"ClearingBooksModel", "audit", "()I"⟩
abbrev b_L_law : ByteArray := code
abbrev y_L_law : MethodName := ⟨"ClearingBooksLaw", "law", "([I)Z"⟩
