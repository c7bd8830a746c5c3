section
-- ===== PART A: goes FIRST, ahead of the names: the tables' words, and 'selects' of the private methods out of them =====
/-- a private method of a class that the tables say can be made, by its rows of tables_1 -/
def lw_okq (q : MethodName × Nat) : Prop := (q.1.cls ≠ "java/lang/invoke/MethodHandle" ∧ q.1.cls ≠ "java/lang/invoke/VarHandle") ∧ Cond.instantiable q.1.cls q.2 ∈ tables_1 ∧ Cond.privateMethod q.1 ∈ tables_1 ∧ Cond.instanceMethod q.1 ∈ tables_1
theorem lw_p0 : lw_okq (⟨"ClearingBooks", "makeTransfers", "()V"⟩, 12) := ⟨⟨by decide +kernel, by decide +kernel⟩, List.mem_of_getElem? (i := 10) (by decide +kernel), List.mem_of_getElem? (i := 61) (by decide +kernel), List.mem_of_getElem? (i := 62) (by decide +kernel)⟩
theorem lw_p1 : lw_okq (⟨"ClearingBooks", "leastOpen", "()I"⟩, 12) := ⟨⟨by decide +kernel, by decide +kernel⟩, List.mem_of_getElem? (i := 10) (by decide +kernel), List.mem_of_getElem? (i := 65) (by decide +kernel), List.mem_of_getElem? (i := 66) (by decide +kernel)⟩
theorem lw_p2 : lw_okq (⟨"ClearingBooks", "greatestOpen", "()I"⟩, 12) := ⟨⟨by decide +kernel, by decide +kernel⟩, List.mem_of_getElem? (i := 10) (by decide +kernel), List.mem_of_getElem? (i := 69) (by decide +kernel), List.mem_of_getElem? (i := 70) (by decide +kernel)⟩
theorem lw_p3 : lw_okq (⟨"ClearingBooks", "makeTransfer", "(II)V"⟩, 12) := ⟨⟨by decide +kernel, by decide +kernel⟩, List.mem_of_getElem? (i := 10) (by decide +kernel), List.mem_of_getElem? (i := 73) (by decide +kernel), List.mem_of_getElem? (i := 74) (by decide +kernel)⟩
theorem lw_p4 : lw_okq (⟨"ClearingBooks", "sumOf", "([J)J"⟩, 12) := ⟨⟨by decide +kernel, by decide +kernel⟩, List.mem_of_getElem? (i := 10) (by decide +kernel), List.mem_of_getElem? (i := 88) (by decide +kernel), List.mem_of_getElem? (i := 89) (by decide +kernel)⟩
theorem lw_p5 : lw_okq (⟨"ClearingBooks", "enter", "(II)I"⟩, 12) := ⟨⟨by decide +kernel, by decide +kernel⟩, List.mem_of_getElem? (i := 10) (by decide +kernel), List.mem_of_getElem? (i := 101) (by decide +kernel), List.mem_of_getElem? (i := 102) (by decide +kernel)⟩
theorem lw_p6 : lw_okq (⟨"java/lang/Throwable", "fillInStackTrace", "(I)Ljava/lang/Throwable;"⟩, 6) := ⟨⟨by decide +kernel, by decide +kernel⟩, List.mem_of_getElem? (i := 142) (by decide +kernel), List.mem_of_getElem? (i := 140) (by decide +kernel), List.mem_of_getElem? (i := 141) (by decide +kernel)⟩
theorem lw_p7 : lw_okq (⟨"ClearingBooks", "requireKind", "(II)V"⟩, 12) := ⟨⟨by decide +kernel, by decide +kernel⟩, List.mem_of_getElem? (i := 10) (by decide +kernel), List.mem_of_getElem? (i := 202) (by decide +kernel), List.mem_of_getElem? (i := 203) (by decide +kernel)⟩
theorem lw_p8 : lw_okq (⟨"ClearingBooks", "isParty", "(I)Z"⟩, 12) := ⟨⟨by decide +kernel, by decide +kernel⟩, List.mem_of_getElem? (i := 10) (by decide +kernel), List.mem_of_getElem? (i := 206) (by decide +kernel), List.mem_of_getElem? (i := 207) (by decide +kernel)⟩
theorem lw_p9 : lw_okq (⟨"ClearingBooks", "placeOf", "(I)I"⟩, 12) := ⟨⟨by decide +kernel, by decide +kernel⟩, List.mem_of_getElem? (i := 10) (by decide +kernel), List.mem_of_getElem? (i := 263) (by decide +kernel), List.mem_of_getElem? (i := 264) (by decide +kernel)⟩
theorem lw_p10 : lw_okq (⟨"ClearingBooksModel", "come", "(II)I"⟩, 13) := ⟨⟨by decide +kernel, by decide +kernel⟩, List.mem_of_getElem? (i := 268) (by decide +kernel), List.mem_of_getElem? (i := 322) (by decide +kernel), List.mem_of_getElem? (i := 323) (by decide +kernel)⟩
theorem lw_p11 : lw_okq (⟨"ClearingBooksModel", "is", "(II)Z"⟩, 13) := ⟨⟨by decide +kernel, by decide +kernel⟩, List.mem_of_getElem? (i := 268) (by decide +kernel), List.mem_of_getElem? (i := 334) (by decide +kernel), List.mem_of_getElem? (i := 335) (by decide +kernel)⟩
theorem lw_p12 : lw_okq (⟨"ClearingBooksModel", "goes", "(Z)Z"⟩, 13) := ⟨⟨by decide +kernel, by decide +kernel⟩, List.mem_of_getElem? (i := 268) (by decide +kernel), List.mem_of_getElem? (i := 339) (by decide +kernel), List.mem_of_getElem? (i := 340) (by decide +kernel)⟩
def lw_privs_1 : List (MethodName × Nat) := [(⟨"ClearingBooks", "makeTransfers", "()V"⟩, 12), (⟨"ClearingBooks", "leastOpen", "()I"⟩, 12), (⟨"ClearingBooks", "greatestOpen", "()I"⟩, 12), (⟨"ClearingBooks", "makeTransfer", "(II)V"⟩, 12), (⟨"ClearingBooks", "sumOf", "([J)J"⟩, 12), (⟨"ClearingBooks", "enter", "(II)I"⟩, 12), (⟨"java/lang/Throwable", "fillInStackTrace", "(I)Ljava/lang/Throwable;"⟩, 6), (⟨"ClearingBooks", "requireKind", "(II)V"⟩, 12), (⟨"ClearingBooks", "isParty", "(I)Z"⟩, 12), (⟨"ClearingBooks", "placeOf", "(I)I"⟩, 12), (⟨"ClearingBooksModel", "come", "(II)I"⟩, 13), (⟨"ClearingBooksModel", "is", "(II)Z"⟩, 13), (⟨"ClearingBooksModel", "goes", "(Z)Z"⟩, 13)]
theorem lw_r1 : ∀ q ∈ lw_privs_1, lw_okq q := List.forall_mem_cons.mpr ⟨lw_p0, List.forall_mem_cons.mpr ⟨lw_p1, List.forall_mem_cons.mpr ⟨lw_p2, List.forall_mem_cons.mpr ⟨lw_p3, List.forall_mem_cons.mpr ⟨lw_p4, List.forall_mem_cons.mpr ⟨lw_p5, List.forall_mem_cons.mpr ⟨lw_p6, List.forall_mem_cons.mpr ⟨lw_p7, List.forall_mem_cons.mpr ⟨lw_p8, List.forall_mem_cons.mpr ⟨lw_p9, List.forall_mem_cons.mpr ⟨lw_p10, List.forall_mem_cons.mpr ⟨lw_p11, List.forall_mem_cons.mpr ⟨lw_p12, fun _ h => absurd h List.not_mem_nil⟩⟩⟩⟩⟩⟩⟩⟩⟩⟩⟩⟩⟩
def lw_privs : List (MethodName × Nat) := lw_privs_1
def lw_tbl : List Cond := k2_sels lw_privs ++ tables_1
theorem lw_privs_ok : ∀ q ∈ lw_privs, lw_okq q := lw_r1
def T_B : u_T := fun k => match k with
  | 0 => ("ClearingBooks", "partyCount", "I", false)
  | 1 => ("ClearingBooks", "kinds", "[I", true)
  | 2 => ("ClearingBooks", "rates", "[I", true)
  | 3 => ("ClearingBooks", "positions", "[J", true)
  | 4 => ("ClearingBooks", "settled", "[J", true)
  | 5 => ("ClearingBooks", "batchCounts", "[I", true)
  | 6 => ("ClearingBooks", "batchSums", "[J", true)
  | 7 => ("ClearingBooks", "open", "[J", true)
  | 8 => ("ClearingBooks", "transferCount", "I", false)
  | 9 => ("ClearingBooks", "payers", "[I", true)
  | 10 => ("ClearingBooks", "payees", "[I", true)
  | _ => ("ClearingBooks", "payments", "[J", true)
def ty_B : Nat → FieldType := fun k => match k with
  | 0 => .int
  | 1 => .array .int
  | 2 => .array .int
  | 3 => .array .long
  | 4 => .array .long
  | 5 => .array .int
  | 6 => .array .long
  | 7 => .array .long
  | 8 => .int
  | 9 => .array .int
  | 10 => .array .int
  | _ => .array .long
theorem nm_B : ∀ a, a < 12 → ∀ b, b < 12 → a ≠ b → (T_B a).2.1 ≠ (T_B b).2.1 := by decide +kernel
theorem tyok_B : ∀ k, k < 12 → parseFieldDescriptor (T_B k).2.2.1 = some (ty_B k) := by decide +kernel
def T_M : u_T := fun k => match k with
  | 0 => ("ClearingBooksModel", "code", "I", false)
  | 1 => ("ClearingBooksModel", "parties", "I", false)
  | 2 => ("ClearingBooksModel", "kind", "[I", true)
  | 3 => ("ClearingBooksModel", "rate", "[I", true)
  | 4 => ("ClearingBooksModel", "position", "[J", true)
  | 5 => ("ClearingBooksModel", "settled", "[J", true)
  | 6 => ("ClearingBooksModel", "count", "[I", true)
  | 7 => ("ClearingBooksModel", "sum", "[J", true)
  | 8 => ("ClearingBooksModel", "open", "[J", true)
  | 9 => ("ClearingBooksModel", "transfers", "I", false)
  | 10 => ("ClearingBooksModel", "payer", "[I", true)
  | 11 => ("ClearingBooksModel", "payee", "[I", true)
  | _ => ("ClearingBooksModel", "paid", "[J", true)
def ty_M : Nat → FieldType := fun k => match k with
  | 0 => .int
  | 1 => .int
  | 2 => .array .int
  | 3 => .array .int
  | 4 => .array .long
  | 5 => .array .long
  | 6 => .array .int
  | 7 => .array .long
  | 8 => .array .long
  | 9 => .int
  | 10 => .array .int
  | 11 => .array .int
  | _ => .array .long
theorem nm_M : ∀ a, a < 13 → ∀ b, b < 13 → a ≠ b → (T_M a).2.1 ≠ (T_M b).2.1 := by decide +kernel
theorem tyok_M : ∀ k, k < 13 → parseFieldDescriptor (T_M k).2.2.1 = some (ty_M k) := by decide +kernel
abbrev vwCl : List vw_C := [("ClearingBooks", T_B, 12), ("ClearingBooksModel", T_M, 13)]
abbrev b_B_init : ByteArray := prog_1_method_1_code
abbrev y_B_init : MethodName := ⟨"ClearingBooks", "<init>", "()V"⟩
abbrev b_B_settle : ByteArray := prog_1_method_8_code
abbrev y_B_settle : MethodName := ⟨"ClearingBooks", "settle", "()I"⟩
abbrev b_B_makeTransfers : ByteArray := prog_1_method_19_code
abbrev y_B_makeTransfers : MethodName := ⟨"ClearingBooks", "makeTransfers", "()V"⟩
abbrev b_B_leastOpen : ByteArray := prog_1_method_21_code
abbrev y_B_leastOpen : MethodName := ⟨"ClearingBooks", "leastOpen", "()I"⟩
abbrev b_B_greatestOpen : ByteArray := prog_1_method_22_code
abbrev y_B_greatestOpen : MethodName := ⟨"ClearingBooks", "greatestOpen", "()I"⟩
abbrev b_B_makeTransfer : ByteArray := prog_1_method_20_code
abbrev y_B_makeTransfer : MethodName := ⟨"ClearingBooks", "makeTransfer", "(II)V"⟩
abbrev b_B_parties : ByteArray := prog_1_method_11_code
abbrev y_B_parties : MethodName := ⟨"ClearingBooks", "parties", "()I"⟩
abbrev b_B_audit : ByteArray := prog_1_method_12_code
abbrev y_B_audit : MethodName := ⟨"ClearingBooks", "audit", "()I"⟩
abbrev b_B_sumOf : ByteArray := prog_1_method_24_code
abbrev y_B_sumOf : MethodName := ⟨"ClearingBooks", "sumOf", "([J)J"⟩
abbrev b_L_acquirer : ByteArray := method_3_code
abbrev y_L_acquirer : MethodName := ⟨"ClearingBooksLaw", "acquirer", "(LClearingBooks;I[J)I"⟩
abbrev b_B_acquirer : ByteArray := prog_1_method_2_code
abbrev y_B_acquirer : MethodName := ⟨"ClearingBooks", "acquirer", "(I)I"⟩
abbrev b_B_enter : ByteArray := prog_1_method_13_code
abbrev y_B_enter : MethodName := ⟨"ClearingBooks", "enter", "(II)I"⟩
abbrev b_L_issuer : ByteArray := method_4_code
abbrev y_L_issuer : MethodName := ⟨"ClearingBooksLaw", "issuer", "(LClearingBooks;I[J)I"⟩
abbrev b_B_issuer : ByteArray := prog_1_method_3_code
abbrev y_B_issuer : MethodName := ⟨"ClearingBooks", "issuer", "(I)I"⟩
abbrev b_L_clear : ByteArray := method_5_code
abbrev y_L_clear : MethodName := ⟨"ClearingBooksLaw", "clear", "(LClearingBooks;IIJ[J)I"⟩
abbrev b_B_clear : ByteArray := prog_1_method_4_code
abbrev y_B_clear : MethodName := ⟨"ClearingBooks", "clear", "(IIJ)J"⟩
abbrev b_B_requireKind : ByteArray := prog_1_method_15_code
abbrev y_B_requireKind : MethodName := ⟨"ClearingBooks", "requireKind", "(II)V"⟩
abbrev b_B_isParty : ByteArray := prog_1_method_14_code
abbrev y_B_isParty : MethodName := ⟨"ClearingBooks", "isParty", "(I)Z"⟩
abbrev b_B_requireAmount : ByteArray := prog_1_method_16_code
abbrev y_B_requireAmount : MethodName := ⟨"ClearingBooks", "requireAmount", "(JJ)V"⟩
abbrev b_B_partRoundedUp : ByteArray := prog_1_method_18_code
abbrev y_B_partRoundedUp : MethodName := ⟨"ClearingBooks", "partRoundedUp", "(JI)J"⟩
abbrev b_B_partRoundedDown : ByteArray := prog_1_method_17_code
abbrev y_B_partRoundedDown : MethodName := ⟨"ClearingBooks", "partRoundedDown", "(JI)J"⟩
abbrev b_L_back : ByteArray := method_6_code
abbrev y_L_back : MethodName := ⟨"ClearingBooksLaw", "back", "(LClearingBooks;IIJ[J)I"⟩
abbrev b_B_back : ByteArray := prog_1_method_5_code
abbrev y_B_back : MethodName := ⟨"ClearingBooks", "back", "(IIJ)J"⟩
abbrev b_L_reconcile : ByteArray := method_7_code
abbrev y_L_reconcile : MethodName := ⟨"ClearingBooksLaw", "reconcile", "(LClearingBooks;IIJ[J)I"⟩
abbrev b_B_reconcile : ByteArray := prog_1_method_6_code
abbrev y_B_reconcile : MethodName := ⟨"ClearingBooks", "reconcile", "(IIJ)Z"⟩
abbrev b_L_batch : ByteArray := method_8_code
abbrev y_L_batch : MethodName := ⟨"ClearingBooksLaw", "batch", "(LClearingBooks;II[J)I"⟩
abbrev b_B_batch : ByteArray := prog_1_method_7_code
abbrev y_B_batch : MethodName := ⟨"ClearingBooks", "batch", "(II)J"⟩
abbrev b_L_transfer : ByteArray := method_9_code
abbrev y_L_transfer : MethodName := ⟨"ClearingBooksLaw", "transfer", "(LClearingBooks;II[J)I"⟩
abbrev b_B_transfer : ByteArray := prog_1_method_9_code
abbrev y_B_transfer : MethodName := ⟨"ClearingBooks", "transfer", "(II)J"⟩
abbrev b_L_party : ByteArray := method_10_code
abbrev y_L_party : MethodName := ⟨"ClearingBooksLaw", "party", "(LClearingBooks;II[J)I"⟩
abbrev b_B_party : ByteArray := prog_1_method_10_code
abbrev y_B_party : MethodName := ⟨"ClearingBooks", "party", "(II)J"⟩
abbrev b_B_placeOf : ByteArray := prog_1_method_23_code
abbrev y_B_placeOf : MethodName := ⟨"ClearingBooks", "placeOf", "(I)I"⟩
abbrev b_M_init : ByteArray := prog_3_method_1_code
abbrev y_M_init : MethodName := ⟨"ClearingBooksModel", "<init>", "()V"⟩
abbrev b_M_thrown : ByteArray := prog_3_method_2_code
abbrev y_M_thrown : MethodName := ⟨"ClearingBooksModel", "thrown", "()I"⟩
abbrev b_M_acquirer : ByteArray := prog_3_method_6_code
abbrev y_M_acquirer : MethodName := ⟨"ClearingBooksModel", "acquirer", "(I)I"⟩
abbrev b_M_come : ByteArray := prog_3_method_5_code
abbrev y_M_come : MethodName := ⟨"ClearingBooksModel", "come", "(II)I"⟩
abbrev b_M_issuer : ByteArray := prog_3_method_7_code
abbrev y_M_issuer : MethodName := ⟨"ClearingBooksModel", "issuer", "(I)I"⟩
abbrev b_M_clear : ByteArray := prog_3_method_8_code
abbrev y_M_clear : MethodName := ⟨"ClearingBooksModel", "clear", "(IIJ)J"⟩
abbrev b_M_is : ByteArray := prog_3_method_4_code
abbrev y_M_is : MethodName := ⟨"ClearingBooksModel", "is", "(II)Z"⟩
abbrev b_M_goes : ByteArray := prog_3_method_3_code
abbrev y_M_goes : MethodName := ⟨"ClearingBooksModel", "goes", "(Z)Z"⟩
abbrev b_M_back : ByteArray := prog_3_method_9_code
abbrev y_M_back : MethodName := ⟨"ClearingBooksModel", "back", "(IIJ)J"⟩
abbrev b_M_reconcile : ByteArray := prog_3_method_10_code
abbrev y_M_reconcile : MethodName := ⟨"ClearingBooksModel", "reconcile", "(IIJ)Z"⟩
abbrev b_M_batch : ByteArray := prog_3_method_11_code
abbrev y_M_batch : MethodName := ⟨"ClearingBooksModel", "batch", "(II)J"⟩
abbrev b_M_settle : ByteArray := prog_3_method_12_code
abbrev y_M_settle : MethodName := ⟨"ClearingBooksModel", "settle", "()I"⟩
abbrev b_M_transfer : ByteArray := prog_3_method_13_code
abbrev y_M_transfer : MethodName := ⟨"ClearingBooksModel", "transfer", "(II)J"⟩
abbrev b_M_party : ByteArray := prog_3_method_14_code
abbrev y_M_party : MethodName := ⟨"ClearingBooksModel", "party", "(II)J"⟩
abbrev b_M_parties : ByteArray := prog_3_method_15_code
abbrev y_M_parties : MethodName := ⟨"ClearingBooksModel", "parties", "()I"⟩
abbrev b_M_audit : ByteArray := prog_3_method_16_code
abbrev y_M_audit : MethodName := ⟨"ClearingBooksModel", "audit", "()I"⟩
abbrev b_L_law : ByteArray := code
abbrev y_L_law : MethodName := ⟨"ClearingBooksLaw", "law", "([I)Z"⟩
end
section
theorem d_B_init_0 : decode b_B_init 0 = .ok (.aload_n 0, 1) := by decide +kernel
theorem d_B_init_1 : decode b_B_init 1 = .ok (.invokespecial 3, 3) := by decide +kernel
theorem d_B_init_4 : decode b_B_init 4 = .ok (.aload_n 0, 1) := by decide +kernel
theorem d_B_init_5 : decode b_B_init 5 = .ok (.bipush 15, 2) := by decide +kernel
theorem d_B_init_7 : decode b_B_init 7 = .ok (.newarray .int, 2) := by decide +kernel
theorem d_B_init_9 : decode b_B_init 9 = .ok (.putfield 9, 3) := by decide +kernel
theorem d_B_init_12 : decode b_B_init 12 = .ok (.aload_n 0, 1) := by decide +kernel
theorem d_B_init_13 : decode b_B_init 13 = .ok (.bipush 15, 2) := by decide +kernel
theorem d_B_init_15 : decode b_B_init 15 = .ok (.newarray .int, 2) := by decide +kernel
theorem d_B_init_17 : decode b_B_init 17 = .ok (.putfield 13, 3) := by decide +kernel
theorem d_B_init_20 : decode b_B_init 20 = .ok (.aload_n 0, 1) := by decide +kernel
theorem d_B_init_21 : decode b_B_init 21 = .ok (.bipush 15, 2) := by decide +kernel
theorem d_B_init_23 : decode b_B_init 23 = .ok (.newarray .long, 2) := by decide +kernel
theorem d_B_init_25 : decode b_B_init 25 = .ok (.putfield 16, 3) := by decide +kernel
theorem d_B_init_28 : decode b_B_init 28 = .ok (.aload_n 0, 1) := by decide +kernel
theorem d_B_init_29 : decode b_B_init 29 = .ok (.bipush 15, 2) := by decide +kernel
theorem d_B_init_31 : decode b_B_init 31 = .ok (.newarray .long, 2) := by decide +kernel
theorem d_B_init_33 : decode b_B_init 33 = .ok (.putfield 20, 3) := by decide +kernel
theorem d_B_init_36 : decode b_B_init 36 = .ok (.aload_n 0, 1) := by decide +kernel
theorem d_B_init_37 : decode b_B_init 37 = .ok (.bipush 15, 2) := by decide +kernel
theorem d_B_init_39 : decode b_B_init 39 = .ok (.newarray .int, 2) := by decide +kernel
theorem d_B_init_41 : decode b_B_init 41 = .ok (.putfield 23, 3) := by decide +kernel
theorem d_B_init_44 : decode b_B_init 44 = .ok (.aload_n 0, 1) := by decide +kernel
theorem d_B_init_45 : decode b_B_init 45 = .ok (.bipush 15, 2) := by decide +kernel
theorem d_B_init_47 : decode b_B_init 47 = .ok (.newarray .long, 2) := by decide +kernel
theorem d_B_init_49 : decode b_B_init 49 = .ok (.putfield 26, 3) := by decide +kernel
theorem d_B_init_52 : decode b_B_init 52 = .ok (.aload_n 0, 1) := by decide +kernel
theorem d_B_init_53 : decode b_B_init 53 = .ok (.bipush 15, 2) := by decide +kernel
theorem d_B_init_55 : decode b_B_init 55 = .ok (.newarray .long, 2) := by decide +kernel
theorem d_B_init_57 : decode b_B_init 57 = .ok (.putfield 29, 3) := by decide +kernel
theorem d_B_init_60 : decode b_B_init 60 = .ok (.aload_n 0, 1) := by decide +kernel
theorem d_B_init_61 : decode b_B_init 61 = .ok (.bipush 14, 2) := by decide +kernel
theorem d_B_init_63 : decode b_B_init 63 = .ok (.newarray .int, 2) := by decide +kernel
theorem d_B_init_65 : decode b_B_init 65 = .ok (.putfield 32, 3) := by decide +kernel
theorem d_B_init_68 : decode b_B_init 68 = .ok (.aload_n 0, 1) := by decide +kernel
theorem d_B_init_69 : decode b_B_init 69 = .ok (.bipush 14, 2) := by decide +kernel
theorem d_B_init_71 : decode b_B_init 71 = .ok (.newarray .int, 2) := by decide +kernel
theorem d_B_init_73 : decode b_B_init 73 = .ok (.putfield 35, 3) := by decide +kernel
theorem d_B_init_76 : decode b_B_init 76 = .ok (.aload_n 0, 1) := by decide +kernel
theorem d_B_init_77 : decode b_B_init 77 = .ok (.bipush 14, 2) := by decide +kernel
theorem d_B_init_79 : decode b_B_init 79 = .ok (.newarray .long, 2) := by decide +kernel
theorem d_B_init_81 : decode b_B_init 81 = .ok (.putfield 38, 3) := by decide +kernel
theorem d_B_init_84 : decode b_B_init 84 = .ok (.aload_n 0, 1) := by decide +kernel
theorem d_B_init_85 : decode b_B_init 85 = .ok (.getfield 9, 3) := by decide +kernel
theorem d_B_init_88 : decode b_B_init 88 = .ok (.iconst 0, 1) := by decide +kernel
theorem d_B_init_89 : decode b_B_init 89 = .ok (.iconst 0, 1) := by decide +kernel
theorem d_B_init_90 : decode b_B_init 90 = .ok (.iastore, 1) := by decide +kernel
theorem d_B_init_91 : decode b_B_init 91 = .ok (.aload_n 0, 1) := by decide +kernel
theorem d_B_init_92 : decode b_B_init 92 = .ok (.iconst 1, 1) := by decide +kernel
theorem d_B_init_93 : decode b_B_init 93 = .ok (.putfield 41, 3) := by decide +kernel
theorem d_B_init_96 : decode b_B_init 96 = .ok (.aload_n 0, 1) := by decide +kernel
theorem d_B_init_97 : decode b_B_init 97 = .ok (.iconst 0, 1) := by decide +kernel
theorem d_B_init_98 : decode b_B_init 98 = .ok (.putfield 45, 3) := by decide +kernel
theorem d_B_init_101 : decode b_B_init 101 = .ok (.return_, 1) := by decide +kernel
theorem d_B_settle_0 : decode b_B_settle 0 = .ok (.iconst 0, 1) := by decide +kernel
theorem d_B_settle_1 : decode b_B_settle 1 = .ok (.istore_n 1, 1) := by decide +kernel
theorem d_B_settle_2 : decode b_B_settle 2 = .ok (.iload_n 1, 1) := by decide +kernel
theorem d_B_settle_3 : decode b_B_settle 3 = .ok (.aload_n 0, 1) := by decide +kernel
theorem d_B_settle_4 : decode b_B_settle 4 = .ok (.getfield 41, 3) := by decide +kernel
theorem d_B_settle_7 : decode b_B_settle 7 = .ok (.if_icmp .ge 43, 3) := by decide +kernel
theorem d_B_settle_10 : decode b_B_settle 10 = .ok (.aload_n 0, 1) := by decide +kernel
theorem d_B_settle_11 : decode b_B_settle 11 = .ok (.getfield 29, 3) := by decide +kernel
theorem d_B_settle_14 : decode b_B_settle 14 = .ok (.iload_n 1, 1) := by decide +kernel
theorem d_B_settle_15 : decode b_B_settle 15 = .ok (.aload_n 0, 1) := by decide +kernel
theorem d_B_settle_16 : decode b_B_settle 16 = .ok (.getfield 16, 3) := by decide +kernel
theorem d_B_settle_19 : decode b_B_settle 19 = .ok (.iload_n 1, 1) := by decide +kernel
theorem d_B_settle_20 : decode b_B_settle 20 = .ok (.laload, 1) := by decide +kernel
theorem d_B_settle_21 : decode b_B_settle 21 = .ok (.lastore, 1) := by decide +kernel
theorem d_B_settle_22 : decode b_B_settle 22 = .ok (.aload_n 0, 1) := by decide +kernel
theorem d_B_settle_23 : decode b_B_settle 23 = .ok (.getfield 20, 3) := by decide +kernel
theorem d_B_settle_26 : decode b_B_settle 26 = .ok (.iload_n 1, 1) := by decide +kernel
theorem d_B_settle_27 : decode b_B_settle 27 = .ok (.dup2, 1) := by decide +kernel
theorem d_B_settle_28 : decode b_B_settle 28 = .ok (.laload, 1) := by decide +kernel
theorem d_B_settle_29 : decode b_B_settle 29 = .ok (.aload_n 0, 1) := by decide +kernel
theorem d_B_settle_30 : decode b_B_settle 30 = .ok (.getfield 16, 3) := by decide +kernel
theorem d_B_settle_33 : decode b_B_settle 33 = .ok (.iload_n 1, 1) := by decide +kernel
theorem d_B_settle_34 : decode b_B_settle 34 = .ok (.laload, 1) := by decide +kernel
theorem d_B_settle_35 : decode b_B_settle 35 = .ok (.ladd, 1) := by decide +kernel
theorem d_B_settle_36 : decode b_B_settle 36 = .ok (.lastore, 1) := by decide +kernel
theorem d_B_settle_37 : decode b_B_settle 37 = .ok (.aload_n 0, 1) := by decide +kernel
theorem d_B_settle_38 : decode b_B_settle 38 = .ok (.getfield 16, 3) := by decide +kernel
theorem d_B_settle_41 : decode b_B_settle 41 = .ok (.iload_n 1, 1) := by decide +kernel
theorem d_B_settle_42 : decode b_B_settle 42 = .ok (.lconst 0, 1) := by decide +kernel
theorem d_B_settle_43 : decode b_B_settle 43 = .ok (.lastore, 1) := by decide +kernel
theorem d_B_settle_44 : decode b_B_settle 44 = .ok (.iinc 1 1, 3) := by decide +kernel
theorem d_B_settle_47 : decode b_B_settle 47 = .ok (.goto (-45), 3) := by decide +kernel
theorem d_B_settle_50 : decode b_B_settle 50 = .ok (.aload_n 0, 1) := by decide +kernel
theorem d_B_settle_51 : decode b_B_settle 51 = .ok (.invokevirtual 76, 3) := by decide +kernel
theorem d_B_settle_54 : decode b_B_settle 54 = .ok (.aload_n 0, 1) := by decide +kernel
theorem d_B_settle_55 : decode b_B_settle 55 = .ok (.getfield 45, 3) := by decide +kernel
theorem d_B_settle_58 : decode b_B_settle 58 = .ok (.ireturn, 1) := by decide +kernel
theorem d_B_makeTransfers_0 : decode b_B_makeTransfers 0 = .ok (.aload_n 0, 1) := by decide +kernel
theorem d_B_makeTransfers_1 : decode b_B_makeTransfers 1 = .ok (.iconst 0, 1) := by decide +kernel
theorem d_B_makeTransfers_2 : decode b_B_makeTransfers 2 = .ok (.putfield 45, 3) := by decide +kernel
theorem d_B_makeTransfers_5 : decode b_B_makeTransfers 5 = .ok (.aload_n 0, 1) := by decide +kernel
theorem d_B_makeTransfers_6 : decode b_B_makeTransfers 6 = .ok (.getfield 45, 3) := by decide +kernel
theorem d_B_makeTransfers_9 : decode b_B_makeTransfers 9 = .ok (.bipush 14, 2) := by decide +kernel
theorem d_B_makeTransfers_11 : decode b_B_makeTransfers 11 = .ok (.if_icmp .ge 32, 3) := by decide +kernel
theorem d_B_makeTransfers_14 : decode b_B_makeTransfers 14 = .ok (.aload_n 0, 1) := by decide +kernel
theorem d_B_makeTransfers_15 : decode b_B_makeTransfers 15 = .ok (.invokevirtual 114, 3) := by decide +kernel
theorem d_B_makeTransfers_18 : decode b_B_makeTransfers 18 = .ok (.istore_n 1, 1) := by decide +kernel
theorem d_B_makeTransfers_19 : decode b_B_makeTransfers 19 = .ok (.aload_n 0, 1) := by decide +kernel
theorem d_B_makeTransfers_20 : decode b_B_makeTransfers 20 = .ok (.getfield 29, 3) := by decide +kernel
theorem d_B_makeTransfers_23 : decode b_B_makeTransfers 23 = .ok (.iload_n 1, 1) := by decide +kernel
theorem d_B_makeTransfers_24 : decode b_B_makeTransfers 24 = .ok (.laload, 1) := by decide +kernel
theorem d_B_makeTransfers_25 : decode b_B_makeTransfers 25 = .ok (.lconst 0, 1) := by decide +kernel
theorem d_B_makeTransfers_26 : decode b_B_makeTransfers 26 = .ok (.lcmp, 1) := by decide +kernel
theorem d_B_makeTransfers_27 : decode b_B_makeTransfers 27 = .ok (.ifCond .lt 4, 3) := by decide +kernel
theorem d_B_makeTransfers_30 : decode b_B_makeTransfers 30 = .ok (.return_, 1) := by decide +kernel
theorem d_B_makeTransfers_31 : decode b_B_makeTransfers 31 = .ok (.aload_n 0, 1) := by decide +kernel
theorem d_B_makeTransfers_32 : decode b_B_makeTransfers 32 = .ok (.iload_n 1, 1) := by decide +kernel
theorem d_B_makeTransfers_33 : decode b_B_makeTransfers 33 = .ok (.aload_n 0, 1) := by decide +kernel
theorem d_B_makeTransfers_34 : decode b_B_makeTransfers 34 = .ok (.invokevirtual 118, 3) := by decide +kernel
theorem d_B_makeTransfers_37 : decode b_B_makeTransfers 37 = .ok (.invokevirtual 121, 3) := by decide +kernel
theorem d_B_makeTransfers_40 : decode b_B_makeTransfers 40 = .ok (.goto (-35), 3) := by decide +kernel
theorem d_B_makeTransfers_43 : decode b_B_makeTransfers 43 = .ok (.return_, 1) := by decide +kernel
theorem d_B_leastOpen_0 : decode b_B_leastOpen 0 = .ok (.iconst 0, 1) := by decide +kernel
theorem d_B_leastOpen_1 : decode b_B_leastOpen 1 = .ok (.istore_n 1, 1) := by decide +kernel
theorem d_B_leastOpen_2 : decode b_B_leastOpen 2 = .ok (.iconst 1, 1) := by decide +kernel
theorem d_B_leastOpen_3 : decode b_B_leastOpen 3 = .ok (.istore_n 2, 1) := by decide +kernel
theorem d_B_leastOpen_4 : decode b_B_leastOpen 4 = .ok (.iload_n 2, 1) := by decide +kernel
theorem d_B_leastOpen_5 : decode b_B_leastOpen 5 = .ok (.aload_n 0, 1) := by decide +kernel
theorem d_B_leastOpen_6 : decode b_B_leastOpen 6 = .ok (.getfield 41, 3) := by decide +kernel
theorem d_B_leastOpen_9 : decode b_B_leastOpen 9 = .ok (.if_icmp .ge 27, 3) := by decide +kernel
theorem d_B_leastOpen_12 : decode b_B_leastOpen 12 = .ok (.aload_n 0, 1) := by decide +kernel
theorem d_B_leastOpen_13 : decode b_B_leastOpen 13 = .ok (.getfield 29, 3) := by decide +kernel
theorem d_B_leastOpen_16 : decode b_B_leastOpen 16 = .ok (.iload_n 2, 1) := by decide +kernel
theorem d_B_leastOpen_17 : decode b_B_leastOpen 17 = .ok (.laload, 1) := by decide +kernel
theorem d_B_leastOpen_18 : decode b_B_leastOpen 18 = .ok (.aload_n 0, 1) := by decide +kernel
theorem d_B_leastOpen_19 : decode b_B_leastOpen 19 = .ok (.getfield 29, 3) := by decide +kernel
theorem d_B_leastOpen_22 : decode b_B_leastOpen 22 = .ok (.iload_n 1, 1) := by decide +kernel
theorem d_B_leastOpen_23 : decode b_B_leastOpen 23 = .ok (.laload, 1) := by decide +kernel
theorem d_B_leastOpen_24 : decode b_B_leastOpen 24 = .ok (.lcmp, 1) := by decide +kernel
theorem d_B_leastOpen_25 : decode b_B_leastOpen 25 = .ok (.ifCond .ge 5, 3) := by decide +kernel
theorem d_B_leastOpen_28 : decode b_B_leastOpen 28 = .ok (.iload_n 2, 1) := by decide +kernel
theorem d_B_leastOpen_29 : decode b_B_leastOpen 29 = .ok (.istore_n 1, 1) := by decide +kernel
theorem d_B_leastOpen_30 : decode b_B_leastOpen 30 = .ok (.iinc 2 1, 3) := by decide +kernel
theorem d_B_leastOpen_33 : decode b_B_leastOpen 33 = .ok (.goto (-29), 3) := by decide +kernel
theorem d_B_leastOpen_36 : decode b_B_leastOpen 36 = .ok (.iload_n 1, 1) := by decide +kernel
theorem d_B_leastOpen_37 : decode b_B_leastOpen 37 = .ok (.ireturn, 1) := by decide +kernel
theorem d_B_greatestOpen_0 : decode b_B_greatestOpen 0 = .ok (.iconst 0, 1) := by decide +kernel
theorem d_B_greatestOpen_1 : decode b_B_greatestOpen 1 = .ok (.istore_n 1, 1) := by decide +kernel
theorem d_B_greatestOpen_2 : decode b_B_greatestOpen 2 = .ok (.iconst 1, 1) := by decide +kernel
theorem d_B_greatestOpen_3 : decode b_B_greatestOpen 3 = .ok (.istore_n 2, 1) := by decide +kernel
theorem d_B_greatestOpen_4 : decode b_B_greatestOpen 4 = .ok (.iload_n 2, 1) := by decide +kernel
theorem d_B_greatestOpen_5 : decode b_B_greatestOpen 5 = .ok (.aload_n 0, 1) := by decide +kernel
theorem d_B_greatestOpen_6 : decode b_B_greatestOpen 6 = .ok (.getfield 41, 3) := by decide +kernel
theorem d_B_greatestOpen_9 : decode b_B_greatestOpen 9 = .ok (.if_icmp .ge 27, 3) := by decide +kernel
theorem d_B_greatestOpen_12 : decode b_B_greatestOpen 12 = .ok (.aload_n 0, 1) := by decide +kernel
theorem d_B_greatestOpen_13 : decode b_B_greatestOpen 13 = .ok (.getfield 29, 3) := by decide +kernel
theorem d_B_greatestOpen_16 : decode b_B_greatestOpen 16 = .ok (.iload_n 2, 1) := by decide +kernel
theorem d_B_greatestOpen_17 : decode b_B_greatestOpen 17 = .ok (.laload, 1) := by decide +kernel
theorem d_B_greatestOpen_18 : decode b_B_greatestOpen 18 = .ok (.aload_n 0, 1) := by decide +kernel
theorem d_B_greatestOpen_19 : decode b_B_greatestOpen 19 = .ok (.getfield 29, 3) := by decide +kernel
theorem d_B_greatestOpen_22 : decode b_B_greatestOpen 22 = .ok (.iload_n 1, 1) := by decide +kernel
theorem d_B_greatestOpen_23 : decode b_B_greatestOpen 23 = .ok (.laload, 1) := by decide +kernel
theorem d_B_greatestOpen_24 : decode b_B_greatestOpen 24 = .ok (.lcmp, 1) := by decide +kernel
theorem d_B_greatestOpen_25 : decode b_B_greatestOpen 25 = .ok (.ifCond .le 5, 3) := by decide +kernel
theorem d_B_greatestOpen_28 : decode b_B_greatestOpen 28 = .ok (.iload_n 2, 1) := by decide +kernel
theorem d_B_greatestOpen_29 : decode b_B_greatestOpen 29 = .ok (.istore_n 1, 1) := by decide +kernel
theorem d_B_greatestOpen_30 : decode b_B_greatestOpen 30 = .ok (.iinc 2 1, 3) := by decide +kernel
theorem d_B_greatestOpen_33 : decode b_B_greatestOpen 33 = .ok (.goto (-29), 3) := by decide +kernel
theorem d_B_greatestOpen_36 : decode b_B_greatestOpen 36 = .ok (.iload_n 1, 1) := by decide +kernel
theorem d_B_greatestOpen_37 : decode b_B_greatestOpen 37 = .ok (.ireturn, 1) := by decide +kernel
theorem d_B_makeTransfer_0 : decode b_B_makeTransfer 0 = .ok (.aload_n 0, 1) := by decide +kernel
theorem d_B_makeTransfer_1 : decode b_B_makeTransfer 1 = .ok (.getfield 29, 3) := by decide +kernel
theorem d_B_makeTransfer_4 : decode b_B_makeTransfer 4 = .ok (.iload_n 1, 1) := by decide +kernel
theorem d_B_makeTransfer_5 : decode b_B_makeTransfer 5 = .ok (.laload, 1) := by decide +kernel
theorem d_B_makeTransfer_6 : decode b_B_makeTransfer 6 = .ok (.lneg, 1) := by decide +kernel
theorem d_B_makeTransfer_7 : decode b_B_makeTransfer 7 = .ok (.aload_n 0, 1) := by decide +kernel
theorem d_B_makeTransfer_8 : decode b_B_makeTransfer 8 = .ok (.getfield 29, 3) := by decide +kernel
theorem d_B_makeTransfer_11 : decode b_B_makeTransfer 11 = .ok (.iload_n 2, 1) := by decide +kernel
theorem d_B_makeTransfer_12 : decode b_B_makeTransfer 12 = .ok (.laload, 1) := by decide +kernel
theorem d_B_makeTransfer_13 : decode b_B_makeTransfer 13 = .ok (.invokestatic 124, 3) := by decide +kernel
theorem d_B_makeTransfer_16 : decode b_B_makeTransfer 16 = .ok (.lstore_n 3, 1) := by decide +kernel
theorem d_B_makeTransfer_17 : decode b_B_makeTransfer 17 = .ok (.aload_n 0, 1) := by decide +kernel
theorem d_B_makeTransfer_18 : decode b_B_makeTransfer 18 = .ok (.getfield 29, 3) := by decide +kernel
theorem d_B_makeTransfer_21 : decode b_B_makeTransfer 21 = .ok (.iload_n 1, 1) := by decide +kernel
theorem d_B_makeTransfer_22 : decode b_B_makeTransfer 22 = .ok (.dup2, 1) := by decide +kernel
theorem d_B_makeTransfer_23 : decode b_B_makeTransfer 23 = .ok (.laload, 1) := by decide +kernel
theorem d_B_makeTransfer_24 : decode b_B_makeTransfer 24 = .ok (.lload_n 3, 1) := by decide +kernel
theorem d_B_makeTransfer_25 : decode b_B_makeTransfer 25 = .ok (.ladd, 1) := by decide +kernel
theorem d_B_makeTransfer_26 : decode b_B_makeTransfer 26 = .ok (.lastore, 1) := by decide +kernel
theorem d_B_makeTransfer_27 : decode b_B_makeTransfer 27 = .ok (.aload_n 0, 1) := by decide +kernel
theorem d_B_makeTransfer_28 : decode b_B_makeTransfer 28 = .ok (.getfield 29, 3) := by decide +kernel
theorem d_B_makeTransfer_31 : decode b_B_makeTransfer 31 = .ok (.iload_n 2, 1) := by decide +kernel
theorem d_B_makeTransfer_32 : decode b_B_makeTransfer 32 = .ok (.dup2, 1) := by decide +kernel
theorem d_B_makeTransfer_33 : decode b_B_makeTransfer 33 = .ok (.laload, 1) := by decide +kernel
theorem d_B_makeTransfer_34 : decode b_B_makeTransfer 34 = .ok (.lload_n 3, 1) := by decide +kernel
theorem d_B_makeTransfer_35 : decode b_B_makeTransfer 35 = .ok (.lsub, 1) := by decide +kernel
theorem d_B_makeTransfer_36 : decode b_B_makeTransfer 36 = .ok (.lastore, 1) := by decide +kernel
theorem d_B_makeTransfer_37 : decode b_B_makeTransfer 37 = .ok (.aload_n 0, 1) := by decide +kernel
theorem d_B_makeTransfer_38 : decode b_B_makeTransfer 38 = .ok (.getfield 32, 3) := by decide +kernel
theorem d_B_makeTransfer_41 : decode b_B_makeTransfer 41 = .ok (.aload_n 0, 1) := by decide +kernel
theorem d_B_makeTransfer_42 : decode b_B_makeTransfer 42 = .ok (.getfield 45, 3) := by decide +kernel
theorem d_B_makeTransfer_45 : decode b_B_makeTransfer 45 = .ok (.iload_n 1, 1) := by decide +kernel
theorem d_B_makeTransfer_46 : decode b_B_makeTransfer 46 = .ok (.iastore, 1) := by decide +kernel
theorem d_B_makeTransfer_47 : decode b_B_makeTransfer 47 = .ok (.aload_n 0, 1) := by decide +kernel
theorem d_B_makeTransfer_48 : decode b_B_makeTransfer 48 = .ok (.getfield 35, 3) := by decide +kernel
theorem d_B_makeTransfer_51 : decode b_B_makeTransfer 51 = .ok (.aload_n 0, 1) := by decide +kernel
theorem d_B_makeTransfer_52 : decode b_B_makeTransfer 52 = .ok (.getfield 45, 3) := by decide +kernel
theorem d_B_makeTransfer_55 : decode b_B_makeTransfer 55 = .ok (.iload_n 2, 1) := by decide +kernel
theorem d_B_makeTransfer_56 : decode b_B_makeTransfer 56 = .ok (.iastore, 1) := by decide +kernel
theorem d_B_makeTransfer_57 : decode b_B_makeTransfer 57 = .ok (.aload_n 0, 1) := by decide +kernel
theorem d_B_makeTransfer_58 : decode b_B_makeTransfer 58 = .ok (.getfield 38, 3) := by decide +kernel
theorem d_B_makeTransfer_61 : decode b_B_makeTransfer 61 = .ok (.aload_n 0, 1) := by decide +kernel
theorem d_B_makeTransfer_62 : decode b_B_makeTransfer 62 = .ok (.getfield 45, 3) := by decide +kernel
theorem d_B_makeTransfer_65 : decode b_B_makeTransfer 65 = .ok (.lload_n 3, 1) := by decide +kernel
theorem d_B_makeTransfer_66 : decode b_B_makeTransfer 66 = .ok (.lastore, 1) := by decide +kernel
theorem d_B_makeTransfer_67 : decode b_B_makeTransfer 67 = .ok (.aload_n 0, 1) := by decide +kernel
theorem d_B_makeTransfer_68 : decode b_B_makeTransfer 68 = .ok (.dup, 1) := by decide +kernel
theorem d_B_makeTransfer_69 : decode b_B_makeTransfer 69 = .ok (.getfield 45, 3) := by decide +kernel
theorem d_B_makeTransfer_72 : decode b_B_makeTransfer 72 = .ok (.iconst 1, 1) := by decide +kernel
theorem d_B_makeTransfer_73 : decode b_B_makeTransfer 73 = .ok (.iadd, 1) := by decide +kernel
theorem d_B_makeTransfer_74 : decode b_B_makeTransfer 74 = .ok (.putfield 45, 3) := by decide +kernel
theorem d_B_makeTransfer_77 : decode b_B_makeTransfer 77 = .ok (.return_, 1) := by decide +kernel
theorem d_B_parties_0 : decode b_B_parties 0 = .ok (.aload_n 0, 1) := by decide +kernel
theorem d_B_parties_1 : decode b_B_parties 1 = .ok (.getfield 41, 3) := by decide +kernel
theorem d_B_parties_4 : decode b_B_parties 4 = .ok (.ireturn, 1) := by decide +kernel
theorem d_B_audit_0 : decode b_B_audit 0 = .ok (.aload_n 0, 1) := by decide +kernel
theorem d_B_audit_1 : decode b_B_audit 1 = .ok (.aload_n 0, 1) := by decide +kernel
theorem d_B_audit_2 : decode b_B_audit 2 = .ok (.getfield 16, 3) := by decide +kernel
theorem d_B_audit_5 : decode b_B_audit 5 = .ok (.invokevirtual 95, 3) := by decide +kernel
theorem d_B_audit_8 : decode b_B_audit 8 = .ok (.lconst 0, 1) := by decide +kernel
theorem d_B_audit_9 : decode b_B_audit 9 = .ok (.lcmp, 1) := by decide +kernel
theorem d_B_audit_10 : decode b_B_audit 10 = .ok (.ifCond .eq 7, 3) := by decide +kernel
theorem d_B_audit_13 : decode b_B_audit 13 = .ok (.iconst 2, 1) := by decide +kernel
theorem d_B_audit_14 : decode b_B_audit 14 = .ok (.goto 4, 3) := by decide +kernel
theorem d_B_audit_17 : decode b_B_audit 17 = .ok (.iconst 0, 1) := by decide +kernel
theorem d_B_audit_18 : decode b_B_audit 18 = .ok (.istore_n 1, 1) := by decide +kernel
theorem d_B_audit_19 : decode b_B_audit 19 = .ok (.aload_n 0, 1) := by decide +kernel
theorem d_B_audit_20 : decode b_B_audit 20 = .ok (.aload_n 0, 1) := by decide +kernel
theorem d_B_audit_21 : decode b_B_audit 21 = .ok (.getfield 20, 3) := by decide +kernel
theorem d_B_audit_24 : decode b_B_audit 24 = .ok (.invokevirtual 95, 3) := by decide +kernel
theorem d_B_audit_27 : decode b_B_audit 27 = .ok (.lconst 0, 1) := by decide +kernel
theorem d_B_audit_28 : decode b_B_audit 28 = .ok (.lcmp, 1) := by decide +kernel
theorem d_B_audit_29 : decode b_B_audit 29 = .ok (.ifCond .eq 7, 3) := by decide +kernel
theorem d_B_audit_32 : decode b_B_audit 32 = .ok (.iconst 1, 1) := by decide +kernel
theorem d_B_audit_33 : decode b_B_audit 33 = .ok (.goto 4, 3) := by decide +kernel
theorem d_B_audit_36 : decode b_B_audit 36 = .ok (.iconst 0, 1) := by decide +kernel
theorem d_B_audit_37 : decode b_B_audit 37 = .ok (.istore_n 2, 1) := by decide +kernel
theorem d_B_audit_38 : decode b_B_audit 38 = .ok (.iload_n 1, 1) := by decide +kernel
theorem d_B_audit_39 : decode b_B_audit 39 = .ok (.iload_n 2, 1) := by decide +kernel
theorem d_B_audit_40 : decode b_B_audit 40 = .ok (.iadd, 1) := by decide +kernel
theorem d_B_audit_41 : decode b_B_audit 41 = .ok (.ireturn, 1) := by decide +kernel
theorem d_B_sumOf_0 : decode b_B_sumOf 0 = .ok (.lconst 0, 1) := by decide +kernel
theorem d_B_sumOf_1 : decode b_B_sumOf 1 = .ok (.lstore_n 2, 1) := by decide +kernel
theorem d_B_sumOf_2 : decode b_B_sumOf 2 = .ok (.iconst 0, 1) := by decide +kernel
theorem d_B_sumOf_3 : decode b_B_sumOf 3 = .ok (.istore 4, 2) := by decide +kernel
theorem d_B_sumOf_5 : decode b_B_sumOf 5 = .ok (.iload 4, 2) := by decide +kernel
theorem d_B_sumOf_7 : decode b_B_sumOf 7 = .ok (.aload_n 0, 1) := by decide +kernel
theorem d_B_sumOf_8 : decode b_B_sumOf 8 = .ok (.getfield 41, 3) := by decide +kernel
theorem d_B_sumOf_11 : decode b_B_sumOf 11 = .ok (.if_icmp .ge 16, 3) := by decide +kernel
theorem d_B_sumOf_14 : decode b_B_sumOf 14 = .ok (.lload_n 2, 1) := by decide +kernel
theorem d_B_sumOf_15 : decode b_B_sumOf 15 = .ok (.aload_n 1, 1) := by decide +kernel
theorem d_B_sumOf_16 : decode b_B_sumOf 16 = .ok (.iload 4, 2) := by decide +kernel
theorem d_B_sumOf_18 : decode b_B_sumOf 18 = .ok (.laload, 1) := by decide +kernel
theorem d_B_sumOf_19 : decode b_B_sumOf 19 = .ok (.ladd, 1) := by decide +kernel
theorem d_B_sumOf_20 : decode b_B_sumOf 20 = .ok (.lstore_n 2, 1) := by decide +kernel
theorem d_B_sumOf_21 : decode b_B_sumOf 21 = .ok (.iinc 4 1, 3) := by decide +kernel
theorem d_B_sumOf_24 : decode b_B_sumOf 24 = .ok (.goto (-19), 3) := by decide +kernel
theorem d_B_sumOf_27 : decode b_B_sumOf 27 = .ok (.lload_n 2, 1) := by decide +kernel
theorem d_B_sumOf_28 : decode b_B_sumOf 28 = .ok (.lreturn, 1) := by decide +kernel
theorem d_B_acquirer_0 : decode b_B_acquirer 0 = .ok (.aload_n 0, 1) := by decide +kernel
theorem d_B_acquirer_1 : decode b_B_acquirer 1 = .ok (.iconst 1, 1) := by decide +kernel
theorem d_B_acquirer_2 : decode b_B_acquirer 2 = .ok (.iload_n 1, 1) := by decide +kernel
theorem d_B_acquirer_3 : decode b_B_acquirer 3 = .ok (.invokevirtual 48, 3) := by decide +kernel
theorem d_B_acquirer_6 : decode b_B_acquirer 6 = .ok (.ireturn, 1) := by decide +kernel
theorem d_B_enter_0 : decode b_B_enter 0 = .ok (.iload_n 2, 1) := by decide +kernel
theorem d_B_enter_1 : decode b_B_enter 1 = .ok (.ifCond .lt 10, 3) := by decide +kernel
theorem d_B_enter_4 : decode b_B_enter 4 = .ok (.iload_n 2, 1) := by decide +kernel
theorem d_B_enter_5 : decode b_B_enter 5 = .ok (.sipush 1000, 3) := by decide +kernel
theorem d_B_enter_8 : decode b_B_enter 8 = .ok (.if_icmp .le 13, 3) := by decide +kernel
theorem d_B_enter_11 : decode b_B_enter 11 = .ok (.new 69, 3) := by decide +kernel
theorem d_B_enter_14 : decode b_B_enter 14 = .ok (.dup, 1) := by decide +kernel
theorem d_B_enter_15 : decode b_B_enter 15 = .ok (.ldc 99, 2) := by decide +kernel
theorem d_B_enter_17 : decode b_B_enter 17 = .ok (.invokespecial 73, 3) := by decide +kernel
theorem d_B_enter_20 : decode b_B_enter 20 = .ok (.athrow, 1) := by decide +kernel
theorem d_B_enter_21 : decode b_B_enter 21 = .ok (.aload_n 0, 1) := by decide +kernel
theorem d_B_enter_22 : decode b_B_enter 22 = .ok (.getfield 41, 3) := by decide +kernel
theorem d_B_enter_25 : decode b_B_enter 25 = .ok (.bipush 15, 2) := by decide +kernel
theorem d_B_enter_27 : decode b_B_enter 27 = .ok (.if_icmp .lt 13, 3) := by decide +kernel
theorem d_B_enter_30 : decode b_B_enter 30 = .ok (.new 101, 3) := by decide +kernel
theorem d_B_enter_33 : decode b_B_enter 33 = .ok (.dup, 1) := by decide +kernel
theorem d_B_enter_34 : decode b_B_enter 34 = .ok (.ldc 103, 2) := by decide +kernel
theorem d_B_enter_36 : decode b_B_enter 36 = .ok (.invokespecial 105, 3) := by decide +kernel
theorem d_B_enter_39 : decode b_B_enter 39 = .ok (.athrow, 1) := by decide +kernel
theorem d_B_enter_40 : decode b_B_enter 40 = .ok (.aload_n 0, 1) := by decide +kernel
theorem d_B_enter_41 : decode b_B_enter 41 = .ok (.getfield 41, 3) := by decide +kernel
theorem d_B_enter_44 : decode b_B_enter 44 = .ok (.istore_n 3, 1) := by decide +kernel
theorem d_B_enter_45 : decode b_B_enter 45 = .ok (.aload_n 0, 1) := by decide +kernel
theorem d_B_enter_46 : decode b_B_enter 46 = .ok (.getfield 9, 3) := by decide +kernel
theorem d_B_enter_49 : decode b_B_enter 49 = .ok (.iload_n 3, 1) := by decide +kernel
theorem d_B_enter_50 : decode b_B_enter 50 = .ok (.iload_n 1, 1) := by decide +kernel
theorem d_B_enter_51 : decode b_B_enter 51 = .ok (.iastore, 1) := by decide +kernel
theorem d_B_enter_52 : decode b_B_enter 52 = .ok (.aload_n 0, 1) := by decide +kernel
theorem d_B_enter_53 : decode b_B_enter 53 = .ok (.getfield 13, 3) := by decide +kernel
theorem d_B_enter_56 : decode b_B_enter 56 = .ok (.iload_n 3, 1) := by decide +kernel
theorem d_B_enter_57 : decode b_B_enter 57 = .ok (.iload_n 2, 1) := by decide +kernel
theorem d_B_enter_58 : decode b_B_enter 58 = .ok (.iastore, 1) := by decide +kernel
theorem d_B_enter_59 : decode b_B_enter 59 = .ok (.aload_n 0, 1) := by decide +kernel
theorem d_B_enter_60 : decode b_B_enter 60 = .ok (.dup, 1) := by decide +kernel
theorem d_B_enter_61 : decode b_B_enter 61 = .ok (.getfield 41, 3) := by decide +kernel
theorem d_B_enter_64 : decode b_B_enter 64 = .ok (.iconst 1, 1) := by decide +kernel
theorem d_B_enter_65 : decode b_B_enter 65 = .ok (.iadd, 1) := by decide +kernel
theorem d_B_enter_66 : decode b_B_enter 66 = .ok (.putfield 41, 3) := by decide +kernel
theorem d_B_enter_69 : decode b_B_enter 69 = .ok (.iload_n 3, 1) := by decide +kernel
theorem d_B_enter_70 : decode b_B_enter 70 = .ok (.ireturn, 1) := by decide +kernel
theorem d_B_issuer_0 : decode b_B_issuer 0 = .ok (.aload_n 0, 1) := by decide +kernel
theorem d_B_issuer_1 : decode b_B_issuer 1 = .ok (.iconst 2, 1) := by decide +kernel
theorem d_B_issuer_2 : decode b_B_issuer 2 = .ok (.iload_n 1, 1) := by decide +kernel
theorem d_B_issuer_3 : decode b_B_issuer 3 = .ok (.invokevirtual 48, 3) := by decide +kernel
theorem d_B_issuer_6 : decode b_B_issuer 6 = .ok (.ireturn, 1) := by decide +kernel
theorem d_B_clear_0 : decode b_B_clear 0 = .ok (.aload_n 0, 1) := by decide +kernel
theorem d_B_clear_1 : decode b_B_clear 1 = .ok (.iload_n 1, 1) := by decide +kernel
theorem d_B_clear_2 : decode b_B_clear 2 = .ok (.iconst 1, 1) := by decide +kernel
theorem d_B_clear_3 : decode b_B_clear 3 = .ok (.invokevirtual 52, 3) := by decide +kernel
theorem d_B_clear_6 : decode b_B_clear 6 = .ok (.aload_n 0, 1) := by decide +kernel
theorem d_B_clear_7 : decode b_B_clear 7 = .ok (.iload_n 2, 1) := by decide +kernel
theorem d_B_clear_8 : decode b_B_clear 8 = .ok (.iconst 2, 1) := by decide +kernel
theorem d_B_clear_9 : decode b_B_clear 9 = .ok (.invokevirtual 52, 3) := by decide +kernel
theorem d_B_clear_12 : decode b_B_clear 12 = .ok (.lload_n 3, 1) := by decide +kernel
theorem d_B_clear_13 : decode b_B_clear 13 = .ok (.lconst 1, 1) := by decide +kernel
theorem d_B_clear_14 : decode b_B_clear 14 = .ok (.invokestatic 56, 3) := by decide +kernel
theorem d_B_clear_17 : decode b_B_clear 17 = .ok (.lload_n 3, 1) := by decide +kernel
theorem d_B_clear_18 : decode b_B_clear 18 = .ok (.aload_n 0, 1) := by decide +kernel
theorem d_B_clear_19 : decode b_B_clear 19 = .ok (.getfield 13, 3) := by decide +kernel
theorem d_B_clear_22 : decode b_B_clear 22 = .ok (.iload_n 2, 1) := by decide +kernel
theorem d_B_clear_23 : decode b_B_clear 23 = .ok (.iaload, 1) := by decide +kernel
theorem d_B_clear_24 : decode b_B_clear 24 = .ok (.aload_n 0, 1) := by decide +kernel
theorem d_B_clear_25 : decode b_B_clear 25 = .ok (.getfield 13, 3) := by decide +kernel
theorem d_B_clear_28 : decode b_B_clear 28 = .ok (.iload_n 1, 1) := by decide +kernel
theorem d_B_clear_29 : decode b_B_clear 29 = .ok (.iaload, 1) := by decide +kernel
theorem d_B_clear_30 : decode b_B_clear 30 = .ok (.iadd, 1) := by decide +kernel
theorem d_B_clear_31 : decode b_B_clear 31 = .ok (.invokestatic 60, 3) := by decide +kernel
theorem d_B_clear_34 : decode b_B_clear 34 = .ok (.lstore 5, 2) := by decide +kernel
theorem d_B_clear_36 : decode b_B_clear 36 = .ok (.lload_n 3, 1) := by decide +kernel
theorem d_B_clear_37 : decode b_B_clear 37 = .ok (.aload_n 0, 1) := by decide +kernel
theorem d_B_clear_38 : decode b_B_clear 38 = .ok (.getfield 13, 3) := by decide +kernel
theorem d_B_clear_41 : decode b_B_clear 41 = .ok (.iload_n 2, 1) := by decide +kernel
theorem d_B_clear_42 : decode b_B_clear 42 = .ok (.iaload, 1) := by decide +kernel
theorem d_B_clear_43 : decode b_B_clear 43 = .ok (.invokestatic 64, 3) := by decide +kernel
theorem d_B_clear_46 : decode b_B_clear 46 = .ok (.lstore 7, 2) := by decide +kernel
theorem d_B_clear_48 : decode b_B_clear 48 = .ok (.aload_n 0, 1) := by decide +kernel
theorem d_B_clear_49 : decode b_B_clear 49 = .ok (.getfield 16, 3) := by decide +kernel
theorem d_B_clear_52 : decode b_B_clear 52 = .ok (.iload_n 1, 1) := by decide +kernel
theorem d_B_clear_53 : decode b_B_clear 53 = .ok (.dup2, 1) := by decide +kernel
theorem d_B_clear_54 : decode b_B_clear 54 = .ok (.laload, 1) := by decide +kernel
theorem d_B_clear_55 : decode b_B_clear 55 = .ok (.lload_n 3, 1) := by decide +kernel
theorem d_B_clear_56 : decode b_B_clear 56 = .ok (.lload 5, 2) := by decide +kernel
theorem d_B_clear_58 : decode b_B_clear 58 = .ok (.lsub, 1) := by decide +kernel
theorem d_B_clear_59 : decode b_B_clear 59 = .ok (.ladd, 1) := by decide +kernel
theorem d_B_clear_60 : decode b_B_clear 60 = .ok (.lastore, 1) := by decide +kernel
theorem d_B_clear_61 : decode b_B_clear 61 = .ok (.aload_n 0, 1) := by decide +kernel
theorem d_B_clear_62 : decode b_B_clear 62 = .ok (.getfield 16, 3) := by decide +kernel
theorem d_B_clear_65 : decode b_B_clear 65 = .ok (.iload_n 2, 1) := by decide +kernel
theorem d_B_clear_66 : decode b_B_clear 66 = .ok (.dup2, 1) := by decide +kernel
theorem d_B_clear_67 : decode b_B_clear 67 = .ok (.laload, 1) := by decide +kernel
theorem d_B_clear_68 : decode b_B_clear 68 = .ok (.lload 7, 2) := by decide +kernel
theorem d_B_clear_70 : decode b_B_clear 70 = .ok (.lload_n 3, 1) := by decide +kernel
theorem d_B_clear_71 : decode b_B_clear 71 = .ok (.lsub, 1) := by decide +kernel
theorem d_B_clear_72 : decode b_B_clear 72 = .ok (.ladd, 1) := by decide +kernel
theorem d_B_clear_73 : decode b_B_clear 73 = .ok (.lastore, 1) := by decide +kernel
theorem d_B_clear_74 : decode b_B_clear 74 = .ok (.aload_n 0, 1) := by decide +kernel
theorem d_B_clear_75 : decode b_B_clear 75 = .ok (.getfield 16, 3) := by decide +kernel
theorem d_B_clear_78 : decode b_B_clear 78 = .ok (.iconst 0, 1) := by decide +kernel
theorem d_B_clear_79 : decode b_B_clear 79 = .ok (.dup2, 1) := by decide +kernel
theorem d_B_clear_80 : decode b_B_clear 80 = .ok (.laload, 1) := by decide +kernel
theorem d_B_clear_81 : decode b_B_clear 81 = .ok (.lload 5, 2) := by decide +kernel
theorem d_B_clear_83 : decode b_B_clear 83 = .ok (.lload 7, 2) := by decide +kernel
theorem d_B_clear_85 : decode b_B_clear 85 = .ok (.lsub, 1) := by decide +kernel
theorem d_B_clear_86 : decode b_B_clear 86 = .ok (.ladd, 1) := by decide +kernel
theorem d_B_clear_87 : decode b_B_clear 87 = .ok (.lastore, 1) := by decide +kernel
theorem d_B_clear_88 : decode b_B_clear 88 = .ok (.aload_n 0, 1) := by decide +kernel
theorem d_B_clear_89 : decode b_B_clear 89 = .ok (.getfield 23, 3) := by decide +kernel
theorem d_B_clear_92 : decode b_B_clear 92 = .ok (.iload_n 1, 1) := by decide +kernel
theorem d_B_clear_93 : decode b_B_clear 93 = .ok (.dup2, 1) := by decide +kernel
theorem d_B_clear_94 : decode b_B_clear 94 = .ok (.iaload, 1) := by decide +kernel
theorem d_B_clear_95 : decode b_B_clear 95 = .ok (.iconst 1, 1) := by decide +kernel
theorem d_B_clear_96 : decode b_B_clear 96 = .ok (.iadd, 1) := by decide +kernel
theorem d_B_clear_97 : decode b_B_clear 97 = .ok (.iastore, 1) := by decide +kernel
theorem d_B_clear_98 : decode b_B_clear 98 = .ok (.aload_n 0, 1) := by decide +kernel
theorem d_B_clear_99 : decode b_B_clear 99 = .ok (.getfield 26, 3) := by decide +kernel
theorem d_B_clear_102 : decode b_B_clear 102 = .ok (.iload_n 1, 1) := by decide +kernel
theorem d_B_clear_103 : decode b_B_clear 103 = .ok (.dup2, 1) := by decide +kernel
theorem d_B_clear_104 : decode b_B_clear 104 = .ok (.laload, 1) := by decide +kernel
theorem d_B_clear_105 : decode b_B_clear 105 = .ok (.lload_n 3, 1) := by decide +kernel
theorem d_B_clear_106 : decode b_B_clear 106 = .ok (.ladd, 1) := by decide +kernel
theorem d_B_clear_107 : decode b_B_clear 107 = .ok (.lastore, 1) := by decide +kernel
theorem d_B_clear_108 : decode b_B_clear 108 = .ok (.lload 5, 2) := by decide +kernel
theorem d_B_clear_110 : decode b_B_clear 110 = .ok (.lreturn, 1) := by decide +kernel
theorem d_B_requireKind_0 : decode b_B_requireKind 0 = .ok (.aload_n 0, 1) := by decide +kernel
theorem d_B_requireKind_1 : decode b_B_requireKind 1 = .ok (.iload_n 1, 1) := by decide +kernel
theorem d_B_requireKind_2 : decode b_B_requireKind 2 = .ok (.invokevirtual 83, 3) := by decide +kernel
theorem d_B_requireKind_5 : decode b_B_requireKind 5 = .ok (.ifCond .eq 13, 3) := by decide +kernel
theorem d_B_requireKind_8 : decode b_B_requireKind 8 = .ok (.aload_n 0, 1) := by decide +kernel
theorem d_B_requireKind_9 : decode b_B_requireKind 9 = .ok (.getfield 9, 3) := by decide +kernel
theorem d_B_requireKind_12 : decode b_B_requireKind 12 = .ok (.iload_n 1, 1) := by decide +kernel
theorem d_B_requireKind_13 : decode b_B_requireKind 13 = .ok (.iaload, 1) := by decide +kernel
theorem d_B_requireKind_14 : decode b_B_requireKind 14 = .ok (.iload_n 2, 1) := by decide +kernel
theorem d_B_requireKind_15 : decode b_B_requireKind 15 = .ok (.if_icmp .eq 13, 3) := by decide +kernel
theorem d_B_requireKind_18 : decode b_B_requireKind 18 = .ok (.new 69, 3) := by decide +kernel
theorem d_B_requireKind_21 : decode b_B_requireKind 21 = .ok (.dup, 1) := by decide +kernel
theorem d_B_requireKind_22 : decode b_B_requireKind 22 = .ok (.ldc 106, 2) := by decide +kernel
theorem d_B_requireKind_24 : decode b_B_requireKind 24 = .ok (.invokespecial 73, 3) := by decide +kernel
theorem d_B_requireKind_27 : decode b_B_requireKind 27 = .ok (.athrow, 1) := by decide +kernel
theorem d_B_requireKind_28 : decode b_B_requireKind 28 = .ok (.return_, 1) := by decide +kernel
theorem d_B_isParty_0 : decode b_B_isParty 0 = .ok (.iload_n 1, 1) := by decide +kernel
theorem d_B_isParty_1 : decode b_B_isParty 1 = .ok (.ifCond .lt 15, 3) := by decide +kernel
theorem d_B_isParty_4 : decode b_B_isParty 4 = .ok (.iload_n 1, 1) := by decide +kernel
theorem d_B_isParty_5 : decode b_B_isParty 5 = .ok (.aload_n 0, 1) := by decide +kernel
theorem d_B_isParty_6 : decode b_B_isParty 6 = .ok (.getfield 41, 3) := by decide +kernel
theorem d_B_isParty_9 : decode b_B_isParty 9 = .ok (.if_icmp .ge 7, 3) := by decide +kernel
theorem d_B_isParty_12 : decode b_B_isParty 12 = .ok (.iconst 1, 1) := by decide +kernel
theorem d_B_isParty_13 : decode b_B_isParty 13 = .ok (.goto 4, 3) := by decide +kernel
theorem d_B_isParty_16 : decode b_B_isParty 16 = .ok (.iconst 0, 1) := by decide +kernel
theorem d_B_isParty_17 : decode b_B_isParty 17 = .ok (.ireturn, 1) := by decide +kernel
theorem d_B_requireAmount_0 : decode b_B_requireAmount 0 = .ok (.lload_n 0, 1) := by decide +kernel
theorem d_B_requireAmount_1 : decode b_B_requireAmount 1 = .ok (.lload_n 2, 1) := by decide +kernel
theorem d_B_requireAmount_2 : decode b_B_requireAmount 2 = .ok (.lcmp, 1) := by decide +kernel
theorem d_B_requireAmount_3 : decode b_B_requireAmount 3 = .ok (.ifCond .lt 11, 3) := by decide +kernel
theorem d_B_requireAmount_6 : decode b_B_requireAmount 6 = .ok (.lload_n 0, 1) := by decide +kernel
theorem d_B_requireAmount_7 : decode b_B_requireAmount 7 = .ok (.ldc2_w 108, 3) := by decide +kernel
theorem d_B_requireAmount_10 : decode b_B_requireAmount 10 = .ok (.lcmp, 1) := by decide +kernel
theorem d_B_requireAmount_11 : decode b_B_requireAmount 11 = .ok (.ifCond .le 13, 3) := by decide +kernel
theorem d_B_requireAmount_14 : decode b_B_requireAmount 14 = .ok (.new 69, 3) := by decide +kernel
theorem d_B_requireAmount_17 : decode b_B_requireAmount 17 = .ok (.dup, 1) := by decide +kernel
theorem d_B_requireAmount_18 : decode b_B_requireAmount 18 = .ok (.ldc 110, 2) := by decide +kernel
theorem d_B_requireAmount_20 : decode b_B_requireAmount 20 = .ok (.invokespecial 73, 3) := by decide +kernel
theorem d_B_requireAmount_23 : decode b_B_requireAmount 23 = .ok (.athrow, 1) := by decide +kernel
theorem d_B_requireAmount_24 : decode b_B_requireAmount 24 = .ok (.return_, 1) := by decide +kernel
theorem d_B_partRoundedUp_0 : decode b_B_partRoundedUp 0 = .ok (.lload_n 0, 1) := by decide +kernel
theorem d_B_partRoundedUp_1 : decode b_B_partRoundedUp 1 = .ok (.iload_n 2, 1) := by decide +kernel
theorem d_B_partRoundedUp_2 : decode b_B_partRoundedUp 2 = .ok (.i2l, 1) := by decide +kernel
theorem d_B_partRoundedUp_3 : decode b_B_partRoundedUp 3 = .ok (.lmul, 1) := by decide +kernel
theorem d_B_partRoundedUp_4 : decode b_B_partRoundedUp 4 = .ok (.ldc2_w 112, 3) := by decide +kernel
theorem d_B_partRoundedUp_7 : decode b_B_partRoundedUp 7 = .ok (.ladd, 1) := by decide +kernel
theorem d_B_partRoundedUp_8 : decode b_B_partRoundedUp 8 = .ok (.lconst 1, 1) := by decide +kernel
theorem d_B_partRoundedUp_9 : decode b_B_partRoundedUp 9 = .ok (.lsub, 1) := by decide +kernel
theorem d_B_partRoundedUp_10 : decode b_B_partRoundedUp 10 = .ok (.ldc2_w 112, 3) := by decide +kernel
theorem d_B_partRoundedUp_13 : decode b_B_partRoundedUp 13 = .ok (.ldiv, 1) := by decide +kernel
theorem d_B_partRoundedUp_14 : decode b_B_partRoundedUp 14 = .ok (.lreturn, 1) := by decide +kernel
theorem d_B_partRoundedDown_0 : decode b_B_partRoundedDown 0 = .ok (.lload_n 0, 1) := by decide +kernel
theorem d_B_partRoundedDown_1 : decode b_B_partRoundedDown 1 = .ok (.iload_n 2, 1) := by decide +kernel
theorem d_B_partRoundedDown_2 : decode b_B_partRoundedDown 2 = .ok (.i2l, 1) := by decide +kernel
theorem d_B_partRoundedDown_3 : decode b_B_partRoundedDown 3 = .ok (.lmul, 1) := by decide +kernel
theorem d_B_partRoundedDown_4 : decode b_B_partRoundedDown 4 = .ok (.ldc2_w 112, 3) := by decide +kernel
theorem d_B_partRoundedDown_7 : decode b_B_partRoundedDown 7 = .ok (.ldiv, 1) := by decide +kernel
theorem d_B_partRoundedDown_8 : decode b_B_partRoundedDown 8 = .ok (.lreturn, 1) := by decide +kernel
theorem d_B_back_0 : decode b_B_back 0 = .ok (.aload_n 0, 1) := by decide +kernel
theorem d_B_back_1 : decode b_B_back 1 = .ok (.iload_n 1, 1) := by decide +kernel
theorem d_B_back_2 : decode b_B_back 2 = .ok (.iconst 1, 1) := by decide +kernel
theorem d_B_back_3 : decode b_B_back 3 = .ok (.invokevirtual 52, 3) := by decide +kernel
theorem d_B_back_6 : decode b_B_back 6 = .ok (.aload_n 0, 1) := by decide +kernel
theorem d_B_back_7 : decode b_B_back 7 = .ok (.iload_n 2, 1) := by decide +kernel
theorem d_B_back_8 : decode b_B_back 8 = .ok (.iconst 2, 1) := by decide +kernel
theorem d_B_back_9 : decode b_B_back 9 = .ok (.invokevirtual 52, 3) := by decide +kernel
theorem d_B_back_12 : decode b_B_back 12 = .ok (.lload_n 3, 1) := by decide +kernel
theorem d_B_back_13 : decode b_B_back 13 = .ok (.ldc2_w 67, 3) := by decide +kernel
theorem d_B_back_16 : decode b_B_back 16 = .ok (.invokestatic 56, 3) := by decide +kernel
theorem d_B_back_19 : decode b_B_back 19 = .ok (.aload_n 0, 1) := by decide +kernel
theorem d_B_back_20 : decode b_B_back 20 = .ok (.getfield 16, 3) := by decide +kernel
theorem d_B_back_23 : decode b_B_back 23 = .ok (.iload_n 1, 1) := by decide +kernel
theorem d_B_back_24 : decode b_B_back 24 = .ok (.dup2, 1) := by decide +kernel
theorem d_B_back_25 : decode b_B_back 25 = .ok (.laload, 1) := by decide +kernel
theorem d_B_back_26 : decode b_B_back 26 = .ok (.lload_n 3, 1) := by decide +kernel
theorem d_B_back_27 : decode b_B_back 27 = .ok (.lsub, 1) := by decide +kernel
theorem d_B_back_28 : decode b_B_back 28 = .ok (.lastore, 1) := by decide +kernel
theorem d_B_back_29 : decode b_B_back 29 = .ok (.aload_n 0, 1) := by decide +kernel
theorem d_B_back_30 : decode b_B_back 30 = .ok (.getfield 16, 3) := by decide +kernel
theorem d_B_back_33 : decode b_B_back 33 = .ok (.iload_n 2, 1) := by decide +kernel
theorem d_B_back_34 : decode b_B_back 34 = .ok (.dup2, 1) := by decide +kernel
theorem d_B_back_35 : decode b_B_back 35 = .ok (.laload, 1) := by decide +kernel
theorem d_B_back_36 : decode b_B_back 36 = .ok (.lload_n 3, 1) := by decide +kernel
theorem d_B_back_37 : decode b_B_back 37 = .ok (.ladd, 1) := by decide +kernel
theorem d_B_back_38 : decode b_B_back 38 = .ok (.lastore, 1) := by decide +kernel
theorem d_B_back_39 : decode b_B_back 39 = .ok (.aload_n 0, 1) := by decide +kernel
theorem d_B_back_40 : decode b_B_back 40 = .ok (.getfield 16, 3) := by decide +kernel
theorem d_B_back_43 : decode b_B_back 43 = .ok (.iload_n 1, 1) := by decide +kernel
theorem d_B_back_44 : decode b_B_back 44 = .ok (.laload, 1) := by decide +kernel
theorem d_B_back_45 : decode b_B_back 45 = .ok (.lreturn, 1) := by decide +kernel
theorem d_B_reconcile_0 : decode b_B_reconcile 0 = .ok (.aload_n 0, 1) := by decide +kernel
theorem d_B_reconcile_1 : decode b_B_reconcile 1 = .ok (.iload_n 1, 1) := by decide +kernel
theorem d_B_reconcile_2 : decode b_B_reconcile 2 = .ok (.iconst 1, 1) := by decide +kernel
theorem d_B_reconcile_3 : decode b_B_reconcile 3 = .ok (.invokevirtual 52, 3) := by decide +kernel
theorem d_B_reconcile_6 : decode b_B_reconcile 6 = .ok (.aload_n 0, 1) := by decide +kernel
theorem d_B_reconcile_7 : decode b_B_reconcile 7 = .ok (.getfield 23, 3) := by decide +kernel
theorem d_B_reconcile_10 : decode b_B_reconcile 10 = .ok (.iload_n 1, 1) := by decide +kernel
theorem d_B_reconcile_11 : decode b_B_reconcile 11 = .ok (.iaload, 1) := by decide +kernel
theorem d_B_reconcile_12 : decode b_B_reconcile 12 = .ok (.iload_n 2, 1) := by decide +kernel
theorem d_B_reconcile_13 : decode b_B_reconcile 13 = .ok (.if_icmp .ne 14, 3) := by decide +kernel
theorem d_B_reconcile_16 : decode b_B_reconcile 16 = .ok (.aload_n 0, 1) := by decide +kernel
theorem d_B_reconcile_17 : decode b_B_reconcile 17 = .ok (.getfield 26, 3) := by decide +kernel
theorem d_B_reconcile_20 : decode b_B_reconcile 20 = .ok (.iload_n 1, 1) := by decide +kernel
theorem d_B_reconcile_21 : decode b_B_reconcile 21 = .ok (.laload, 1) := by decide +kernel
theorem d_B_reconcile_22 : decode b_B_reconcile 22 = .ok (.lload_n 3, 1) := by decide +kernel
theorem d_B_reconcile_23 : decode b_B_reconcile 23 = .ok (.lcmp, 1) := by decide +kernel
theorem d_B_reconcile_24 : decode b_B_reconcile 24 = .ok (.ifCond .eq 5, 3) := by decide +kernel
theorem d_B_reconcile_27 : decode b_B_reconcile 27 = .ok (.iconst 0, 1) := by decide +kernel
theorem d_B_reconcile_28 : decode b_B_reconcile 28 = .ok (.ireturn, 1) := by decide +kernel
theorem d_B_reconcile_29 : decode b_B_reconcile 29 = .ok (.aload_n 0, 1) := by decide +kernel
theorem d_B_reconcile_30 : decode b_B_reconcile 30 = .ok (.getfield 23, 3) := by decide +kernel
theorem d_B_reconcile_33 : decode b_B_reconcile 33 = .ok (.iload_n 1, 1) := by decide +kernel
theorem d_B_reconcile_34 : decode b_B_reconcile 34 = .ok (.iconst 0, 1) := by decide +kernel
theorem d_B_reconcile_35 : decode b_B_reconcile 35 = .ok (.iastore, 1) := by decide +kernel
theorem d_B_reconcile_36 : decode b_B_reconcile 36 = .ok (.aload_n 0, 1) := by decide +kernel
theorem d_B_reconcile_37 : decode b_B_reconcile 37 = .ok (.getfield 26, 3) := by decide +kernel
theorem d_B_reconcile_40 : decode b_B_reconcile 40 = .ok (.iload_n 1, 1) := by decide +kernel
theorem d_B_reconcile_41 : decode b_B_reconcile 41 = .ok (.lconst 0, 1) := by decide +kernel
theorem d_B_reconcile_42 : decode b_B_reconcile 42 = .ok (.lastore, 1) := by decide +kernel
theorem d_B_reconcile_43 : decode b_B_reconcile 43 = .ok (.iconst 1, 1) := by decide +kernel
theorem d_B_reconcile_44 : decode b_B_reconcile 44 = .ok (.ireturn, 1) := by decide +kernel
theorem d_B_batch_0 : decode b_B_batch 0 = .ok (.aload_n 0, 1) := by decide +kernel
theorem d_B_batch_1 : decode b_B_batch 1 = .ok (.iload_n 1, 1) := by decide +kernel
theorem d_B_batch_2 : decode b_B_batch 2 = .ok (.iconst 1, 1) := by decide +kernel
theorem d_B_batch_3 : decode b_B_batch 3 = .ok (.invokevirtual 52, 3) := by decide +kernel
theorem d_B_batch_6 : decode b_B_batch 6 = .ok (.iload_n 2, 1) := by decide +kernel
theorem d_B_batch_7 : decode b_B_batch 7 = .ok (.lookupswitch 40 #[(0, 25), (1, 33)], 25) := by decide +kernel
theorem d_B_batch_32 : decode b_B_batch 32 = .ok (.aload_n 0, 1) := by decide +kernel
theorem d_B_batch_33 : decode b_B_batch 33 = .ok (.getfield 23, 3) := by decide +kernel
theorem d_B_batch_36 : decode b_B_batch 36 = .ok (.iload_n 1, 1) := by decide +kernel
theorem d_B_batch_37 : decode b_B_batch 37 = .ok (.iaload, 1) := by decide +kernel
theorem d_B_batch_38 : decode b_B_batch 38 = .ok (.i2l, 1) := by decide +kernel
theorem d_B_batch_39 : decode b_B_batch 39 = .ok (.lreturn, 1) := by decide +kernel
theorem d_B_batch_40 : decode b_B_batch 40 = .ok (.aload_n 0, 1) := by decide +kernel
theorem d_B_batch_41 : decode b_B_batch 41 = .ok (.getfield 26, 3) := by decide +kernel
theorem d_B_batch_44 : decode b_B_batch 44 = .ok (.iload_n 1, 1) := by decide +kernel
theorem d_B_batch_45 : decode b_B_batch 45 = .ok (.laload, 1) := by decide +kernel
theorem d_B_batch_46 : decode b_B_batch 46 = .ok (.lreturn, 1) := by decide +kernel
theorem d_B_batch_47 : decode b_B_batch 47 = .ok (.new 69, 3) := by decide +kernel
theorem d_B_batch_50 : decode b_B_batch 50 = .ok (.dup, 1) := by decide +kernel
theorem d_B_batch_51 : decode b_B_batch 51 = .ok (.ldc 71, 2) := by decide +kernel
theorem d_B_batch_53 : decode b_B_batch 53 = .ok (.invokespecial 73, 3) := by decide +kernel
theorem d_B_batch_56 : decode b_B_batch 56 = .ok (.athrow, 1) := by decide +kernel
theorem d_B_transfer_0 : decode b_B_transfer 0 = .ok (.iload_n 1, 1) := by decide +kernel
theorem d_B_transfer_1 : decode b_B_transfer 1 = .ok (.ifCond .lt 11, 3) := by decide +kernel
theorem d_B_transfer_4 : decode b_B_transfer 4 = .ok (.iload_n 1, 1) := by decide +kernel
theorem d_B_transfer_5 : decode b_B_transfer 5 = .ok (.aload_n 0, 1) := by decide +kernel
theorem d_B_transfer_6 : decode b_B_transfer 6 = .ok (.getfield 45, 3) := by decide +kernel
theorem d_B_transfer_9 : decode b_B_transfer 9 = .ok (.if_icmp .lt 13, 3) := by decide +kernel
theorem d_B_transfer_12 : decode b_B_transfer 12 = .ok (.new 69, 3) := by decide +kernel
theorem d_B_transfer_15 : decode b_B_transfer 15 = .ok (.dup, 1) := by decide +kernel
theorem d_B_transfer_16 : decode b_B_transfer 16 = .ok (.ldc 79, 2) := by decide +kernel
theorem d_B_transfer_18 : decode b_B_transfer 18 = .ok (.invokespecial 73, 3) := by decide +kernel
theorem d_B_transfer_21 : decode b_B_transfer 21 = .ok (.athrow, 1) := by decide +kernel
theorem d_B_transfer_22 : decode b_B_transfer 22 = .ok (.iload_n 2, 1) := by decide +kernel
theorem d_B_transfer_23 : decode b_B_transfer 23 = .ok (.tableswitch 48 0 2 #[25, 33, 41], 25) := by decide +kernel
theorem d_B_transfer_48 : decode b_B_transfer 48 = .ok (.aload_n 0, 1) := by decide +kernel
theorem d_B_transfer_49 : decode b_B_transfer 49 = .ok (.getfield 32, 3) := by decide +kernel
theorem d_B_transfer_52 : decode b_B_transfer 52 = .ok (.iload_n 1, 1) := by decide +kernel
theorem d_B_transfer_53 : decode b_B_transfer 53 = .ok (.iaload, 1) := by decide +kernel
theorem d_B_transfer_54 : decode b_B_transfer 54 = .ok (.i2l, 1) := by decide +kernel
theorem d_B_transfer_55 : decode b_B_transfer 55 = .ok (.lreturn, 1) := by decide +kernel
theorem d_B_transfer_56 : decode b_B_transfer 56 = .ok (.aload_n 0, 1) := by decide +kernel
theorem d_B_transfer_57 : decode b_B_transfer 57 = .ok (.getfield 35, 3) := by decide +kernel
theorem d_B_transfer_60 : decode b_B_transfer 60 = .ok (.iload_n 1, 1) := by decide +kernel
theorem d_B_transfer_61 : decode b_B_transfer 61 = .ok (.iaload, 1) := by decide +kernel
theorem d_B_transfer_62 : decode b_B_transfer 62 = .ok (.i2l, 1) := by decide +kernel
theorem d_B_transfer_63 : decode b_B_transfer 63 = .ok (.lreturn, 1) := by decide +kernel
theorem d_B_transfer_64 : decode b_B_transfer 64 = .ok (.aload_n 0, 1) := by decide +kernel
theorem d_B_transfer_65 : decode b_B_transfer 65 = .ok (.getfield 38, 3) := by decide +kernel
theorem d_B_transfer_68 : decode b_B_transfer 68 = .ok (.iload_n 1, 1) := by decide +kernel
theorem d_B_transfer_69 : decode b_B_transfer 69 = .ok (.laload, 1) := by decide +kernel
theorem d_B_transfer_70 : decode b_B_transfer 70 = .ok (.lreturn, 1) := by decide +kernel
theorem d_B_transfer_71 : decode b_B_transfer 71 = .ok (.new 69, 3) := by decide +kernel
theorem d_B_transfer_74 : decode b_B_transfer 74 = .ok (.dup, 1) := by decide +kernel
theorem d_B_transfer_75 : decode b_B_transfer 75 = .ok (.ldc 81, 2) := by decide +kernel
theorem d_B_transfer_77 : decode b_B_transfer 77 = .ok (.invokespecial 73, 3) := by decide +kernel
theorem d_B_transfer_80 : decode b_B_transfer 80 = .ok (.athrow, 1) := by decide +kernel
theorem d_B_party_0 : decode b_B_party 0 = .ok (.aload_n 0, 1) := by decide +kernel
theorem d_B_party_1 : decode b_B_party 1 = .ok (.iload_n 1, 1) := by decide +kernel
theorem d_B_party_2 : decode b_B_party 2 = .ok (.invokevirtual 83, 3) := by decide +kernel
theorem d_B_party_5 : decode b_B_party 5 = .ok (.ifCond .ne 13, 3) := by decide +kernel
theorem d_B_party_8 : decode b_B_party 8 = .ok (.new 69, 3) := by decide +kernel
theorem d_B_party_11 : decode b_B_party 11 = .ok (.dup, 1) := by decide +kernel
theorem d_B_party_12 : decode b_B_party 12 = .ok (.ldc 87, 2) := by decide +kernel
theorem d_B_party_14 : decode b_B_party 14 = .ok (.invokespecial 73, 3) := by decide +kernel
theorem d_B_party_17 : decode b_B_party 17 = .ok (.athrow, 1) := by decide +kernel
theorem d_B_party_18 : decode b_B_party 18 = .ok (.iload_n 2, 1) := by decide +kernel
theorem d_B_party_19 : decode b_B_party 19 = .ok (.tableswitch 70 0 4 #[33, 40, 47, 55, 63], 33) := by decide +kernel
theorem d_B_party_52 : decode b_B_party 52 = .ok (.aload_n 0, 1) := by decide +kernel
theorem d_B_party_53 : decode b_B_party 53 = .ok (.getfield 16, 3) := by decide +kernel
theorem d_B_party_56 : decode b_B_party 56 = .ok (.iload_n 1, 1) := by decide +kernel
theorem d_B_party_57 : decode b_B_party 57 = .ok (.laload, 1) := by decide +kernel
theorem d_B_party_58 : decode b_B_party 58 = .ok (.lreturn, 1) := by decide +kernel
theorem d_B_party_59 : decode b_B_party 59 = .ok (.aload_n 0, 1) := by decide +kernel
theorem d_B_party_60 : decode b_B_party 60 = .ok (.getfield 20, 3) := by decide +kernel
theorem d_B_party_63 : decode b_B_party 63 = .ok (.iload_n 1, 1) := by decide +kernel
theorem d_B_party_64 : decode b_B_party 64 = .ok (.laload, 1) := by decide +kernel
theorem d_B_party_65 : decode b_B_party 65 = .ok (.lreturn, 1) := by decide +kernel
theorem d_B_party_66 : decode b_B_party 66 = .ok (.aload_n 0, 1) := by decide +kernel
theorem d_B_party_67 : decode b_B_party 67 = .ok (.getfield 9, 3) := by decide +kernel
theorem d_B_party_70 : decode b_B_party 70 = .ok (.iload_n 1, 1) := by decide +kernel
theorem d_B_party_71 : decode b_B_party 71 = .ok (.iaload, 1) := by decide +kernel
theorem d_B_party_72 : decode b_B_party 72 = .ok (.i2l, 1) := by decide +kernel
theorem d_B_party_73 : decode b_B_party 73 = .ok (.lreturn, 1) := by decide +kernel
theorem d_B_party_74 : decode b_B_party 74 = .ok (.aload_n 0, 1) := by decide +kernel
theorem d_B_party_75 : decode b_B_party 75 = .ok (.getfield 13, 3) := by decide +kernel
theorem d_B_party_78 : decode b_B_party 78 = .ok (.iload_n 1, 1) := by decide +kernel
theorem d_B_party_79 : decode b_B_party 79 = .ok (.iaload, 1) := by decide +kernel
theorem d_B_party_80 : decode b_B_party 80 = .ok (.i2l, 1) := by decide +kernel
theorem d_B_party_81 : decode b_B_party 81 = .ok (.lreturn, 1) := by decide +kernel
theorem d_B_party_82 : decode b_B_party 82 = .ok (.aload_n 0, 1) := by decide +kernel
theorem d_B_party_83 : decode b_B_party 83 = .ok (.iload_n 1, 1) := by decide +kernel
theorem d_B_party_84 : decode b_B_party 84 = .ok (.invokevirtual 89, 3) := by decide +kernel
theorem d_B_party_87 : decode b_B_party 87 = .ok (.i2l, 1) := by decide +kernel
theorem d_B_party_88 : decode b_B_party 88 = .ok (.lreturn, 1) := by decide +kernel
theorem d_B_party_89 : decode b_B_party 89 = .ok (.new 69, 3) := by decide +kernel
theorem d_B_party_92 : decode b_B_party 92 = .ok (.dup, 1) := by decide +kernel
theorem d_B_party_93 : decode b_B_party 93 = .ok (.ldc 93, 2) := by decide +kernel
theorem d_B_party_95 : decode b_B_party 95 = .ok (.invokespecial 73, 3) := by decide +kernel
theorem d_B_party_98 : decode b_B_party 98 = .ok (.athrow, 1) := by decide +kernel
theorem d_B_placeOf_0 : decode b_B_placeOf 0 = .ok (.iconst 0, 1) := by decide +kernel
theorem d_B_placeOf_1 : decode b_B_placeOf 1 = .ok (.istore_n 2, 1) := by decide +kernel
theorem d_B_placeOf_2 : decode b_B_placeOf 2 = .ok (.iconst 0, 1) := by decide +kernel
theorem d_B_placeOf_3 : decode b_B_placeOf 3 = .ok (.istore_n 3, 1) := by decide +kernel
theorem d_B_placeOf_4 : decode b_B_placeOf 4 = .ok (.iload_n 3, 1) := by decide +kernel
theorem d_B_placeOf_5 : decode b_B_placeOf 5 = .ok (.aload_n 0, 1) := by decide +kernel
theorem d_B_placeOf_6 : decode b_B_placeOf 6 = .ok (.getfield 41, 3) := by decide +kernel
theorem d_B_placeOf_9 : decode b_B_placeOf 9 = .ok (.if_icmp .ge 61, 3) := by decide +kernel
theorem d_B_placeOf_12 : decode b_B_placeOf 12 = .ok (.aload_n 0, 1) := by decide +kernel
theorem d_B_placeOf_13 : decode b_B_placeOf 13 = .ok (.getfield 16, 3) := by decide +kernel
theorem d_B_placeOf_16 : decode b_B_placeOf 16 = .ok (.iload_n 3, 1) := by decide +kernel
theorem d_B_placeOf_17 : decode b_B_placeOf 17 = .ok (.laload, 1) := by decide +kernel
theorem d_B_placeOf_18 : decode b_B_placeOf 18 = .ok (.aload_n 0, 1) := by decide +kernel
theorem d_B_placeOf_19 : decode b_B_placeOf 19 = .ok (.getfield 16, 3) := by decide +kernel
theorem d_B_placeOf_22 : decode b_B_placeOf 22 = .ok (.iload_n 1, 1) := by decide +kernel
theorem d_B_placeOf_23 : decode b_B_placeOf 23 = .ok (.laload, 1) := by decide +kernel
theorem d_B_placeOf_24 : decode b_B_placeOf 24 = .ok (.lcmp, 1) := by decide +kernel
theorem d_B_placeOf_25 : decode b_B_placeOf 25 = .ok (.ifCond .ne 12, 3) := by decide +kernel
theorem d_B_placeOf_28 : decode b_B_placeOf 28 = .ok (.iload_n 3, 1) := by decide +kernel
theorem d_B_placeOf_29 : decode b_B_placeOf 29 = .ok (.iload_n 1, 1) := by decide +kernel
theorem d_B_placeOf_30 : decode b_B_placeOf 30 = .ok (.if_icmp .ge 7, 3) := by decide +kernel
theorem d_B_placeOf_33 : decode b_B_placeOf 33 = .ok (.iconst 1, 1) := by decide +kernel
theorem d_B_placeOf_34 : decode b_B_placeOf 34 = .ok (.goto 4, 3) := by decide +kernel
theorem d_B_placeOf_37 : decode b_B_placeOf 37 = .ok (.iconst 0, 1) := by decide +kernel
theorem d_B_placeOf_38 : decode b_B_placeOf 38 = .ok (.istore 4, 2) := by decide +kernel
theorem d_B_placeOf_40 : decode b_B_placeOf 40 = .ok (.aload_n 0, 1) := by decide +kernel
theorem d_B_placeOf_41 : decode b_B_placeOf 41 = .ok (.getfield 16, 3) := by decide +kernel
theorem d_B_placeOf_44 : decode b_B_placeOf 44 = .ok (.iload_n 3, 1) := by decide +kernel
theorem d_B_placeOf_45 : decode b_B_placeOf 45 = .ok (.laload, 1) := by decide +kernel
theorem d_B_placeOf_46 : decode b_B_placeOf 46 = .ok (.aload_n 0, 1) := by decide +kernel
theorem d_B_placeOf_47 : decode b_B_placeOf 47 = .ok (.getfield 16, 3) := by decide +kernel
theorem d_B_placeOf_50 : decode b_B_placeOf 50 = .ok (.iload_n 1, 1) := by decide +kernel
theorem d_B_placeOf_51 : decode b_B_placeOf 51 = .ok (.laload, 1) := by decide +kernel
theorem d_B_placeOf_52 : decode b_B_placeOf 52 = .ok (.lcmp, 1) := by decide +kernel
theorem d_B_placeOf_53 : decode b_B_placeOf 53 = .ok (.ifCond .gt 8, 3) := by decide +kernel
theorem d_B_placeOf_56 : decode b_B_placeOf 56 = .ok (.iload 4, 2) := by decide +kernel
theorem d_B_placeOf_58 : decode b_B_placeOf 58 = .ok (.ifCond .eq 6, 3) := by decide +kernel
theorem d_B_placeOf_61 : decode b_B_placeOf 61 = .ok (.iinc 2 1, 3) := by decide +kernel
theorem d_B_placeOf_64 : decode b_B_placeOf 64 = .ok (.iinc 3 1, 3) := by decide +kernel
theorem d_B_placeOf_67 : decode b_B_placeOf 67 = .ok (.goto (-63), 3) := by decide +kernel
theorem d_B_placeOf_70 : decode b_B_placeOf 70 = .ok (.iload_n 2, 1) := by decide +kernel
theorem d_B_placeOf_71 : decode b_B_placeOf 71 = .ok (.ireturn, 1) := by decide +kernel
end
section
theorem d_M_init_0 : decode b_M_init 0 = .ok (.aload_n 0, 1) := by decide +kernel
theorem d_M_init_1 : decode b_M_init 1 = .ok (.invokespecial 1, 3) := by decide +kernel
theorem d_M_init_4 : decode b_M_init 4 = .ok (.aload_n 0, 1) := by decide +kernel
theorem d_M_init_5 : decode b_M_init 5 = .ok (.iconst 1, 1) := by decide +kernel
theorem d_M_init_6 : decode b_M_init 6 = .ok (.putfield 7, 3) := by decide +kernel
theorem d_M_init_9 : decode b_M_init 9 = .ok (.aload_n 0, 1) := by decide +kernel
theorem d_M_init_10 : decode b_M_init 10 = .ok (.bipush 15, 2) := by decide +kernel
theorem d_M_init_12 : decode b_M_init 12 = .ok (.newarray .int, 2) := by decide +kernel
theorem d_M_init_14 : decode b_M_init 14 = .ok (.putfield 13, 3) := by decide +kernel
theorem d_M_init_17 : decode b_M_init 17 = .ok (.aload_n 0, 1) := by decide +kernel
theorem d_M_init_18 : decode b_M_init 18 = .ok (.bipush 15, 2) := by decide +kernel
theorem d_M_init_20 : decode b_M_init 20 = .ok (.newarray .int, 2) := by decide +kernel
theorem d_M_init_22 : decode b_M_init 22 = .ok (.putfield 17, 3) := by decide +kernel
theorem d_M_init_25 : decode b_M_init 25 = .ok (.aload_n 0, 1) := by decide +kernel
theorem d_M_init_26 : decode b_M_init 26 = .ok (.bipush 15, 2) := by decide +kernel
theorem d_M_init_28 : decode b_M_init 28 = .ok (.newarray .long, 2) := by decide +kernel
theorem d_M_init_30 : decode b_M_init 30 = .ok (.putfield 20, 3) := by decide +kernel
theorem d_M_init_33 : decode b_M_init 33 = .ok (.aload_n 0, 1) := by decide +kernel
theorem d_M_init_34 : decode b_M_init 34 = .ok (.bipush 15, 2) := by decide +kernel
theorem d_M_init_36 : decode b_M_init 36 = .ok (.newarray .long, 2) := by decide +kernel
theorem d_M_init_38 : decode b_M_init 38 = .ok (.putfield 24, 3) := by decide +kernel
theorem d_M_init_41 : decode b_M_init 41 = .ok (.aload_n 0, 1) := by decide +kernel
theorem d_M_init_42 : decode b_M_init 42 = .ok (.bipush 15, 2) := by decide +kernel
theorem d_M_init_44 : decode b_M_init 44 = .ok (.newarray .int, 2) := by decide +kernel
theorem d_M_init_46 : decode b_M_init 46 = .ok (.putfield 27, 3) := by decide +kernel
theorem d_M_init_49 : decode b_M_init 49 = .ok (.aload_n 0, 1) := by decide +kernel
theorem d_M_init_50 : decode b_M_init 50 = .ok (.bipush 15, 2) := by decide +kernel
theorem d_M_init_52 : decode b_M_init 52 = .ok (.newarray .long, 2) := by decide +kernel
theorem d_M_init_54 : decode b_M_init 54 = .ok (.putfield 30, 3) := by decide +kernel
theorem d_M_init_57 : decode b_M_init 57 = .ok (.aload_n 0, 1) := by decide +kernel
theorem d_M_init_58 : decode b_M_init 58 = .ok (.bipush 15, 2) := by decide +kernel
theorem d_M_init_60 : decode b_M_init 60 = .ok (.newarray .long, 2) := by decide +kernel
theorem d_M_init_62 : decode b_M_init 62 = .ok (.putfield 33, 3) := by decide +kernel
theorem d_M_init_65 : decode b_M_init 65 = .ok (.aload_n 0, 1) := by decide +kernel
theorem d_M_init_66 : decode b_M_init 66 = .ok (.bipush 15, 2) := by decide +kernel
theorem d_M_init_68 : decode b_M_init 68 = .ok (.newarray .int, 2) := by decide +kernel
theorem d_M_init_70 : decode b_M_init 70 = .ok (.putfield 36, 3) := by decide +kernel
theorem d_M_init_73 : decode b_M_init 73 = .ok (.aload_n 0, 1) := by decide +kernel
theorem d_M_init_74 : decode b_M_init 74 = .ok (.bipush 15, 2) := by decide +kernel
theorem d_M_init_76 : decode b_M_init 76 = .ok (.newarray .int, 2) := by decide +kernel
theorem d_M_init_78 : decode b_M_init 78 = .ok (.putfield 39, 3) := by decide +kernel
theorem d_M_init_81 : decode b_M_init 81 = .ok (.aload_n 0, 1) := by decide +kernel
theorem d_M_init_82 : decode b_M_init 82 = .ok (.bipush 15, 2) := by decide +kernel
theorem d_M_init_84 : decode b_M_init 84 = .ok (.newarray .long, 2) := by decide +kernel
theorem d_M_init_86 : decode b_M_init 86 = .ok (.putfield 42, 3) := by decide +kernel
theorem d_M_init_89 : decode b_M_init 89 = .ok (.return_, 1) := by decide +kernel
theorem d_M_thrown_0 : decode b_M_thrown 0 = .ok (.aload_n 0, 1) := by decide +kernel
theorem d_M_thrown_1 : decode b_M_thrown 1 = .ok (.getfield 45, 3) := by decide +kernel
theorem d_M_thrown_4 : decode b_M_thrown 4 = .ok (.ireturn, 1) := by decide +kernel
theorem d_M_acquirer_0 : decode b_M_acquirer 0 = .ok (.aload_n 0, 1) := by decide +kernel
theorem d_M_acquirer_1 : decode b_M_acquirer 1 = .ok (.iconst 1, 1) := by decide +kernel
theorem d_M_acquirer_2 : decode b_M_acquirer 2 = .ok (.iload_n 1, 1) := by decide +kernel
theorem d_M_acquirer_3 : decode b_M_acquirer 3 = .ok (.invokevirtual 48, 3) := by decide +kernel
theorem d_M_acquirer_6 : decode b_M_acquirer 6 = .ok (.ireturn, 1) := by decide +kernel
theorem d_M_come_0 : decode b_M_come 0 = .ok (.aload_n 0, 1) := by decide +kernel
theorem d_M_come_1 : decode b_M_come 1 = .ok (.iload_n 2, 1) := by decide +kernel
theorem d_M_come_2 : decode b_M_come 2 = .ok (.ifCond .lt 10, 3) := by decide +kernel
theorem d_M_come_5 : decode b_M_come 5 = .ok (.iload_n 2, 1) := by decide +kernel
theorem d_M_come_6 : decode b_M_come 6 = .ok (.sipush 1000, 3) := by decide +kernel
theorem d_M_come_9 : decode b_M_come 9 = .ok (.if_icmp .le 7, 3) := by decide +kernel
theorem d_M_come_12 : decode b_M_come 12 = .ok (.iconst 1, 1) := by decide +kernel
theorem d_M_come_13 : decode b_M_come 13 = .ok (.goto 17, 3) := by decide +kernel
theorem d_M_come_16 : decode b_M_come 16 = .ok (.aload_n 0, 1) := by decide +kernel
theorem d_M_come_17 : decode b_M_come 17 = .ok (.getfield 7, 3) := by decide +kernel
theorem d_M_come_20 : decode b_M_come 20 = .ok (.bipush 15, 2) := by decide +kernel
theorem d_M_come_22 : decode b_M_come 22 = .ok (.if_icmp .ne 7, 3) := by decide +kernel
theorem d_M_come_25 : decode b_M_come 25 = .ok (.iconst 2, 1) := by decide +kernel
theorem d_M_come_26 : decode b_M_come 26 = .ok (.goto 4, 3) := by decide +kernel
theorem d_M_come_29 : decode b_M_come 29 = .ok (.iconst 0, 1) := by decide +kernel
theorem d_M_come_30 : decode b_M_come 30 = .ok (.putfield 45, 3) := by decide +kernel
theorem d_M_come_33 : decode b_M_come 33 = .ok (.aload_n 0, 1) := by decide +kernel
theorem d_M_come_34 : decode b_M_come 34 = .ok (.getfield 45, 3) := by decide +kernel
theorem d_M_come_37 : decode b_M_come 37 = .ok (.ifCond .le 5, 3) := by decide +kernel
theorem d_M_come_40 : decode b_M_come 40 = .ok (.iconst 0, 1) := by decide +kernel
theorem d_M_come_41 : decode b_M_come 41 = .ok (.ireturn, 1) := by decide +kernel
theorem d_M_come_42 : decode b_M_come 42 = .ok (.aload_n 0, 1) := by decide +kernel
theorem d_M_come_43 : decode b_M_come 43 = .ok (.getfield 13, 3) := by decide +kernel
theorem d_M_come_46 : decode b_M_come 46 = .ok (.aload_n 0, 1) := by decide +kernel
theorem d_M_come_47 : decode b_M_come 47 = .ok (.getfield 7, 3) := by decide +kernel
theorem d_M_come_50 : decode b_M_come 50 = .ok (.iload_n 1, 1) := by decide +kernel
theorem d_M_come_51 : decode b_M_come 51 = .ok (.iastore, 1) := by decide +kernel
theorem d_M_come_52 : decode b_M_come 52 = .ok (.aload_n 0, 1) := by decide +kernel
theorem d_M_come_53 : decode b_M_come 53 = .ok (.getfield 17, 3) := by decide +kernel
theorem d_M_come_56 : decode b_M_come 56 = .ok (.aload_n 0, 1) := by decide +kernel
theorem d_M_come_57 : decode b_M_come 57 = .ok (.getfield 7, 3) := by decide +kernel
theorem d_M_come_60 : decode b_M_come 60 = .ok (.iload_n 2, 1) := by decide +kernel
theorem d_M_come_61 : decode b_M_come 61 = .ok (.iastore, 1) := by decide +kernel
theorem d_M_come_62 : decode b_M_come 62 = .ok (.aload_n 0, 1) := by decide +kernel
theorem d_M_come_63 : decode b_M_come 63 = .ok (.dup, 1) := by decide +kernel
theorem d_M_come_64 : decode b_M_come 64 = .ok (.getfield 7, 3) := by decide +kernel
theorem d_M_come_67 : decode b_M_come 67 = .ok (.iconst 1, 1) := by decide +kernel
theorem d_M_come_68 : decode b_M_come 68 = .ok (.iadd, 1) := by decide +kernel
theorem d_M_come_69 : decode b_M_come 69 = .ok (.putfield 7, 3) := by decide +kernel
theorem d_M_come_72 : decode b_M_come 72 = .ok (.aload_n 0, 1) := by decide +kernel
theorem d_M_come_73 : decode b_M_come 73 = .ok (.getfield 7, 3) := by decide +kernel
theorem d_M_come_76 : decode b_M_come 76 = .ok (.iconst 1, 1) := by decide +kernel
theorem d_M_come_77 : decode b_M_come 77 = .ok (.isub, 1) := by decide +kernel
theorem d_M_come_78 : decode b_M_come 78 = .ok (.ireturn, 1) := by decide +kernel
theorem d_M_issuer_0 : decode b_M_issuer 0 = .ok (.aload_n 0, 1) := by decide +kernel
theorem d_M_issuer_1 : decode b_M_issuer 1 = .ok (.iconst 2, 1) := by decide +kernel
theorem d_M_issuer_2 : decode b_M_issuer 2 = .ok (.iload_n 1, 1) := by decide +kernel
theorem d_M_issuer_3 : decode b_M_issuer 3 = .ok (.invokevirtual 48, 3) := by decide +kernel
theorem d_M_issuer_6 : decode b_M_issuer 6 = .ok (.ireturn, 1) := by decide +kernel
theorem d_M_clear_0 : decode b_M_clear 0 = .ok (.aload_n 0, 1) := by decide +kernel
theorem d_M_clear_1 : decode b_M_clear 1 = .ok (.aload_n 0, 1) := by decide +kernel
theorem d_M_clear_2 : decode b_M_clear 2 = .ok (.iload_n 1, 1) := by decide +kernel
theorem d_M_clear_3 : decode b_M_clear 3 = .ok (.iconst 1, 1) := by decide +kernel
theorem d_M_clear_4 : decode b_M_clear 4 = .ok (.invokevirtual 52, 3) := by decide +kernel
theorem d_M_clear_7 : decode b_M_clear 7 = .ok (.ifCond .eq 30, 3) := by decide +kernel
theorem d_M_clear_10 : decode b_M_clear 10 = .ok (.aload_n 0, 1) := by decide +kernel
theorem d_M_clear_11 : decode b_M_clear 11 = .ok (.iload_n 2, 1) := by decide +kernel
theorem d_M_clear_12 : decode b_M_clear 12 = .ok (.iconst 2, 1) := by decide +kernel
theorem d_M_clear_13 : decode b_M_clear 13 = .ok (.invokevirtual 52, 3) := by decide +kernel
theorem d_M_clear_16 : decode b_M_clear 16 = .ok (.ifCond .eq 21, 3) := by decide +kernel
theorem d_M_clear_19 : decode b_M_clear 19 = .ok (.lload_n 3, 1) := by decide +kernel
theorem d_M_clear_20 : decode b_M_clear 20 = .ok (.lconst 1, 1) := by decide +kernel
theorem d_M_clear_21 : decode b_M_clear 21 = .ok (.lcmp, 1) := by decide +kernel
theorem d_M_clear_22 : decode b_M_clear 22 = .ok (.ifCond .lt 15, 3) := by decide +kernel
theorem d_M_clear_25 : decode b_M_clear 25 = .ok (.lload_n 3, 1) := by decide +kernel
theorem d_M_clear_26 : decode b_M_clear 26 = .ok (.ldc2_w 56, 3) := by decide +kernel
theorem d_M_clear_29 : decode b_M_clear 29 = .ok (.lcmp, 1) := by decide +kernel
theorem d_M_clear_30 : decode b_M_clear 30 = .ok (.ifCond .gt 7, 3) := by decide +kernel
theorem d_M_clear_33 : decode b_M_clear 33 = .ok (.iconst 1, 1) := by decide +kernel
theorem d_M_clear_34 : decode b_M_clear 34 = .ok (.goto 4, 3) := by decide +kernel
theorem d_M_clear_37 : decode b_M_clear 37 = .ok (.iconst 0, 1) := by decide +kernel
theorem d_M_clear_38 : decode b_M_clear 38 = .ok (.invokevirtual 58, 3) := by decide +kernel
theorem d_M_clear_41 : decode b_M_clear 41 = .ok (.ifCond .ne 5, 3) := by decide +kernel
theorem d_M_clear_44 : decode b_M_clear 44 = .ok (.lconst 0, 1) := by decide +kernel
theorem d_M_clear_45 : decode b_M_clear 45 = .ok (.lreturn, 1) := by decide +kernel
theorem d_M_clear_46 : decode b_M_clear 46 = .ok (.lload_n 3, 1) := by decide +kernel
theorem d_M_clear_47 : decode b_M_clear 47 = .ok (.aload_n 0, 1) := by decide +kernel
theorem d_M_clear_48 : decode b_M_clear 48 = .ok (.getfield 17, 3) := by decide +kernel
theorem d_M_clear_51 : decode b_M_clear 51 = .ok (.iload_n 1, 1) := by decide +kernel
theorem d_M_clear_52 : decode b_M_clear 52 = .ok (.iaload, 1) := by decide +kernel
theorem d_M_clear_53 : decode b_M_clear 53 = .ok (.aload_n 0, 1) := by decide +kernel
theorem d_M_clear_54 : decode b_M_clear 54 = .ok (.getfield 17, 3) := by decide +kernel
theorem d_M_clear_57 : decode b_M_clear 57 = .ok (.iload_n 2, 1) := by decide +kernel
theorem d_M_clear_58 : decode b_M_clear 58 = .ok (.iaload, 1) := by decide +kernel
theorem d_M_clear_59 : decode b_M_clear 59 = .ok (.iadd, 1) := by decide +kernel
theorem d_M_clear_60 : decode b_M_clear 60 = .ok (.i2l, 1) := by decide +kernel
theorem d_M_clear_61 : decode b_M_clear 61 = .ok (.lmul, 1) := by decide +kernel
theorem d_M_clear_62 : decode b_M_clear 62 = .ok (.lstore 5, 2) := by decide +kernel
theorem d_M_clear_64 : decode b_M_clear 64 = .ok (.lload 5, 2) := by decide +kernel
theorem d_M_clear_66 : decode b_M_clear 66 = .ok (.ldc2_w 62, 3) := by decide +kernel
theorem d_M_clear_69 : decode b_M_clear 69 = .ok (.ldiv, 1) := by decide +kernel
theorem d_M_clear_70 : decode b_M_clear 70 = .ok (.lstore 7, 2) := by decide +kernel
theorem d_M_clear_72 : decode b_M_clear 72 = .ok (.lload 7, 2) := by decide +kernel
theorem d_M_clear_74 : decode b_M_clear 74 = .ok (.lload 7, 2) := by decide +kernel
theorem d_M_clear_76 : decode b_M_clear 76 = .ok (.ldc2_w 62, 3) := by decide +kernel
theorem d_M_clear_79 : decode b_M_clear 79 = .ok (.lmul, 1) := by decide +kernel
theorem d_M_clear_80 : decode b_M_clear 80 = .ok (.lload 5, 2) := by decide +kernel
theorem d_M_clear_82 : decode b_M_clear 82 = .ok (.lcmp, 1) := by decide +kernel
theorem d_M_clear_83 : decode b_M_clear 83 = .ok (.ifCond .ge 7, 3) := by decide +kernel
theorem d_M_clear_86 : decode b_M_clear 86 = .ok (.lconst 1, 1) := by decide +kernel
theorem d_M_clear_87 : decode b_M_clear 87 = .ok (.goto 4, 3) := by decide +kernel
theorem d_M_clear_90 : decode b_M_clear 90 = .ok (.lconst 0, 1) := by decide +kernel
theorem d_M_clear_91 : decode b_M_clear 91 = .ok (.ladd, 1) := by decide +kernel
theorem d_M_clear_92 : decode b_M_clear 92 = .ok (.lstore 7, 2) := by decide +kernel
theorem d_M_clear_94 : decode b_M_clear 94 = .ok (.lload_n 3, 1) := by decide +kernel
theorem d_M_clear_95 : decode b_M_clear 95 = .ok (.aload_n 0, 1) := by decide +kernel
theorem d_M_clear_96 : decode b_M_clear 96 = .ok (.getfield 17, 3) := by decide +kernel
theorem d_M_clear_99 : decode b_M_clear 99 = .ok (.iload_n 2, 1) := by decide +kernel
theorem d_M_clear_100 : decode b_M_clear 100 = .ok (.iaload, 1) := by decide +kernel
theorem d_M_clear_101 : decode b_M_clear 101 = .ok (.i2l, 1) := by decide +kernel
theorem d_M_clear_102 : decode b_M_clear 102 = .ok (.lmul, 1) := by decide +kernel
theorem d_M_clear_103 : decode b_M_clear 103 = .ok (.ldc2_w 62, 3) := by decide +kernel
theorem d_M_clear_106 : decode b_M_clear 106 = .ok (.ldiv, 1) := by decide +kernel
theorem d_M_clear_107 : decode b_M_clear 107 = .ok (.lstore 9, 2) := by decide +kernel
theorem d_M_clear_109 : decode b_M_clear 109 = .ok (.aload_n 0, 1) := by decide +kernel
theorem d_M_clear_110 : decode b_M_clear 110 = .ok (.getfield 20, 3) := by decide +kernel
theorem d_M_clear_113 : decode b_M_clear 113 = .ok (.iload_n 1, 1) := by decide +kernel
theorem d_M_clear_114 : decode b_M_clear 114 = .ok (.dup2, 1) := by decide +kernel
theorem d_M_clear_115 : decode b_M_clear 115 = .ok (.laload, 1) := by decide +kernel
theorem d_M_clear_116 : decode b_M_clear 116 = .ok (.lload_n 3, 1) := by decide +kernel
theorem d_M_clear_117 : decode b_M_clear 117 = .ok (.lload 7, 2) := by decide +kernel
theorem d_M_clear_119 : decode b_M_clear 119 = .ok (.lsub, 1) := by decide +kernel
theorem d_M_clear_120 : decode b_M_clear 120 = .ok (.ladd, 1) := by decide +kernel
theorem d_M_clear_121 : decode b_M_clear 121 = .ok (.lastore, 1) := by decide +kernel
theorem d_M_clear_122 : decode b_M_clear 122 = .ok (.aload_n 0, 1) := by decide +kernel
theorem d_M_clear_123 : decode b_M_clear 123 = .ok (.getfield 20, 3) := by decide +kernel
theorem d_M_clear_126 : decode b_M_clear 126 = .ok (.iload_n 2, 1) := by decide +kernel
theorem d_M_clear_127 : decode b_M_clear 127 = .ok (.dup2, 1) := by decide +kernel
theorem d_M_clear_128 : decode b_M_clear 128 = .ok (.laload, 1) := by decide +kernel
theorem d_M_clear_129 : decode b_M_clear 129 = .ok (.lload 9, 2) := by decide +kernel
theorem d_M_clear_131 : decode b_M_clear 131 = .ok (.lload_n 3, 1) := by decide +kernel
theorem d_M_clear_132 : decode b_M_clear 132 = .ok (.lsub, 1) := by decide +kernel
theorem d_M_clear_133 : decode b_M_clear 133 = .ok (.ladd, 1) := by decide +kernel
theorem d_M_clear_134 : decode b_M_clear 134 = .ok (.lastore, 1) := by decide +kernel
theorem d_M_clear_135 : decode b_M_clear 135 = .ok (.aload_n 0, 1) := by decide +kernel
theorem d_M_clear_136 : decode b_M_clear 136 = .ok (.getfield 20, 3) := by decide +kernel
theorem d_M_clear_139 : decode b_M_clear 139 = .ok (.iconst 0, 1) := by decide +kernel
theorem d_M_clear_140 : decode b_M_clear 140 = .ok (.dup2, 1) := by decide +kernel
theorem d_M_clear_141 : decode b_M_clear 141 = .ok (.laload, 1) := by decide +kernel
theorem d_M_clear_142 : decode b_M_clear 142 = .ok (.lload 7, 2) := by decide +kernel
theorem d_M_clear_144 : decode b_M_clear 144 = .ok (.lload 9, 2) := by decide +kernel
theorem d_M_clear_146 : decode b_M_clear 146 = .ok (.lsub, 1) := by decide +kernel
theorem d_M_clear_147 : decode b_M_clear 147 = .ok (.ladd, 1) := by decide +kernel
theorem d_M_clear_148 : decode b_M_clear 148 = .ok (.lastore, 1) := by decide +kernel
theorem d_M_clear_149 : decode b_M_clear 149 = .ok (.aload_n 0, 1) := by decide +kernel
theorem d_M_clear_150 : decode b_M_clear 150 = .ok (.getfield 27, 3) := by decide +kernel
theorem d_M_clear_153 : decode b_M_clear 153 = .ok (.iload_n 1, 1) := by decide +kernel
theorem d_M_clear_154 : decode b_M_clear 154 = .ok (.dup2, 1) := by decide +kernel
theorem d_M_clear_155 : decode b_M_clear 155 = .ok (.iaload, 1) := by decide +kernel
theorem d_M_clear_156 : decode b_M_clear 156 = .ok (.iconst 1, 1) := by decide +kernel
theorem d_M_clear_157 : decode b_M_clear 157 = .ok (.iadd, 1) := by decide +kernel
theorem d_M_clear_158 : decode b_M_clear 158 = .ok (.iastore, 1) := by decide +kernel
theorem d_M_clear_159 : decode b_M_clear 159 = .ok (.aload_n 0, 1) := by decide +kernel
theorem d_M_clear_160 : decode b_M_clear 160 = .ok (.getfield 30, 3) := by decide +kernel
theorem d_M_clear_163 : decode b_M_clear 163 = .ok (.iload_n 1, 1) := by decide +kernel
theorem d_M_clear_164 : decode b_M_clear 164 = .ok (.dup2, 1) := by decide +kernel
theorem d_M_clear_165 : decode b_M_clear 165 = .ok (.laload, 1) := by decide +kernel
theorem d_M_clear_166 : decode b_M_clear 166 = .ok (.lload_n 3, 1) := by decide +kernel
theorem d_M_clear_167 : decode b_M_clear 167 = .ok (.ladd, 1) := by decide +kernel
theorem d_M_clear_168 : decode b_M_clear 168 = .ok (.lastore, 1) := by decide +kernel
theorem d_M_clear_169 : decode b_M_clear 169 = .ok (.lload 7, 2) := by decide +kernel
theorem d_M_clear_171 : decode b_M_clear 171 = .ok (.lreturn, 1) := by decide +kernel
theorem d_M_is_0 : decode b_M_is 0 = .ok (.iload_n 1, 1) := by decide +kernel
theorem d_M_is_1 : decode b_M_is 1 = .ok (.ifCond .le 25, 3) := by decide +kernel
theorem d_M_is_4 : decode b_M_is 4 = .ok (.iload_n 1, 1) := by decide +kernel
theorem d_M_is_5 : decode b_M_is 5 = .ok (.aload_n 0, 1) := by decide +kernel
theorem d_M_is_6 : decode b_M_is 6 = .ok (.getfield 7, 3) := by decide +kernel
theorem d_M_is_9 : decode b_M_is 9 = .ok (.if_icmp .ge 17, 3) := by decide +kernel
theorem d_M_is_12 : decode b_M_is 12 = .ok (.aload_n 0, 1) := by decide +kernel
theorem d_M_is_13 : decode b_M_is 13 = .ok (.getfield 13, 3) := by decide +kernel
theorem d_M_is_16 : decode b_M_is 16 = .ok (.iload_n 1, 1) := by decide +kernel
theorem d_M_is_17 : decode b_M_is 17 = .ok (.iaload, 1) := by decide +kernel
theorem d_M_is_18 : decode b_M_is 18 = .ok (.iload_n 2, 1) := by decide +kernel
theorem d_M_is_19 : decode b_M_is 19 = .ok (.if_icmp .ne 7, 3) := by decide +kernel
theorem d_M_is_22 : decode b_M_is 22 = .ok (.iconst 1, 1) := by decide +kernel
theorem d_M_is_23 : decode b_M_is 23 = .ok (.goto 4, 3) := by decide +kernel
theorem d_M_is_26 : decode b_M_is 26 = .ok (.iconst 0, 1) := by decide +kernel
theorem d_M_is_27 : decode b_M_is 27 = .ok (.ireturn, 1) := by decide +kernel
theorem d_M_goes_0 : decode b_M_goes 0 = .ok (.aload_n 0, 1) := by decide +kernel
theorem d_M_goes_1 : decode b_M_goes 1 = .ok (.iload_n 1, 1) := by decide +kernel
theorem d_M_goes_2 : decode b_M_goes 2 = .ok (.ifCond .eq 7, 3) := by decide +kernel
theorem d_M_goes_5 : decode b_M_goes 5 = .ok (.iconst 0, 1) := by decide +kernel
theorem d_M_goes_6 : decode b_M_goes 6 = .ok (.goto 4, 3) := by decide +kernel
theorem d_M_goes_9 : decode b_M_goes 9 = .ok (.iconst 1, 1) := by decide +kernel
theorem d_M_goes_10 : decode b_M_goes 10 = .ok (.putfield 45, 3) := by decide +kernel
theorem d_M_goes_13 : decode b_M_goes 13 = .ok (.iload_n 1, 1) := by decide +kernel
theorem d_M_goes_14 : decode b_M_goes 14 = .ok (.ireturn, 1) := by decide +kernel
theorem d_M_back_0 : decode b_M_back 0 = .ok (.aload_n 0, 1) := by decide +kernel
theorem d_M_back_1 : decode b_M_back 1 = .ok (.aload_n 0, 1) := by decide +kernel
theorem d_M_back_2 : decode b_M_back 2 = .ok (.iload_n 1, 1) := by decide +kernel
theorem d_M_back_3 : decode b_M_back 3 = .ok (.iconst 1, 1) := by decide +kernel
theorem d_M_back_4 : decode b_M_back 4 = .ok (.invokevirtual 52, 3) := by decide +kernel
theorem d_M_back_7 : decode b_M_back 7 = .ok (.ifCond .eq 32, 3) := by decide +kernel
theorem d_M_back_10 : decode b_M_back 10 = .ok (.aload_n 0, 1) := by decide +kernel
theorem d_M_back_11 : decode b_M_back 11 = .ok (.iload_n 2, 1) := by decide +kernel
theorem d_M_back_12 : decode b_M_back 12 = .ok (.iconst 2, 1) := by decide +kernel
theorem d_M_back_13 : decode b_M_back 13 = .ok (.invokevirtual 52, 3) := by decide +kernel
theorem d_M_back_16 : decode b_M_back 16 = .ok (.ifCond .eq 23, 3) := by decide +kernel
theorem d_M_back_19 : decode b_M_back 19 = .ok (.lload_n 3, 1) := by decide +kernel
theorem d_M_back_20 : decode b_M_back 20 = .ok (.ldc2_w 64, 3) := by decide +kernel
theorem d_M_back_23 : decode b_M_back 23 = .ok (.lcmp, 1) := by decide +kernel
theorem d_M_back_24 : decode b_M_back 24 = .ok (.ifCond .lt 15, 3) := by decide +kernel
theorem d_M_back_27 : decode b_M_back 27 = .ok (.lload_n 3, 1) := by decide +kernel
theorem d_M_back_28 : decode b_M_back 28 = .ok (.ldc2_w 56, 3) := by decide +kernel
theorem d_M_back_31 : decode b_M_back 31 = .ok (.lcmp, 1) := by decide +kernel
theorem d_M_back_32 : decode b_M_back 32 = .ok (.ifCond .gt 7, 3) := by decide +kernel
theorem d_M_back_35 : decode b_M_back 35 = .ok (.iconst 1, 1) := by decide +kernel
theorem d_M_back_36 : decode b_M_back 36 = .ok (.goto 4, 3) := by decide +kernel
theorem d_M_back_39 : decode b_M_back 39 = .ok (.iconst 0, 1) := by decide +kernel
theorem d_M_back_40 : decode b_M_back 40 = .ok (.invokevirtual 58, 3) := by decide +kernel
theorem d_M_back_43 : decode b_M_back 43 = .ok (.ifCond .ne 5, 3) := by decide +kernel
theorem d_M_back_46 : decode b_M_back 46 = .ok (.lconst 0, 1) := by decide +kernel
theorem d_M_back_47 : decode b_M_back 47 = .ok (.lreturn, 1) := by decide +kernel
theorem d_M_back_48 : decode b_M_back 48 = .ok (.aload_n 0, 1) := by decide +kernel
theorem d_M_back_49 : decode b_M_back 49 = .ok (.getfield 20, 3) := by decide +kernel
theorem d_M_back_52 : decode b_M_back 52 = .ok (.iload_n 1, 1) := by decide +kernel
theorem d_M_back_53 : decode b_M_back 53 = .ok (.dup2, 1) := by decide +kernel
theorem d_M_back_54 : decode b_M_back 54 = .ok (.laload, 1) := by decide +kernel
theorem d_M_back_55 : decode b_M_back 55 = .ok (.lload_n 3, 1) := by decide +kernel
theorem d_M_back_56 : decode b_M_back 56 = .ok (.lsub, 1) := by decide +kernel
theorem d_M_back_57 : decode b_M_back 57 = .ok (.lastore, 1) := by decide +kernel
theorem d_M_back_58 : decode b_M_back 58 = .ok (.aload_n 0, 1) := by decide +kernel
theorem d_M_back_59 : decode b_M_back 59 = .ok (.getfield 20, 3) := by decide +kernel
theorem d_M_back_62 : decode b_M_back 62 = .ok (.iload_n 2, 1) := by decide +kernel
theorem d_M_back_63 : decode b_M_back 63 = .ok (.dup2, 1) := by decide +kernel
theorem d_M_back_64 : decode b_M_back 64 = .ok (.laload, 1) := by decide +kernel
theorem d_M_back_65 : decode b_M_back 65 = .ok (.lload_n 3, 1) := by decide +kernel
theorem d_M_back_66 : decode b_M_back 66 = .ok (.ladd, 1) := by decide +kernel
theorem d_M_back_67 : decode b_M_back 67 = .ok (.lastore, 1) := by decide +kernel
theorem d_M_back_68 : decode b_M_back 68 = .ok (.aload_n 0, 1) := by decide +kernel
theorem d_M_back_69 : decode b_M_back 69 = .ok (.getfield 20, 3) := by decide +kernel
theorem d_M_back_72 : decode b_M_back 72 = .ok (.iload_n 1, 1) := by decide +kernel
theorem d_M_back_73 : decode b_M_back 73 = .ok (.laload, 1) := by decide +kernel
theorem d_M_back_74 : decode b_M_back 74 = .ok (.lreturn, 1) := by decide +kernel
theorem d_M_reconcile_0 : decode b_M_reconcile 0 = .ok (.aload_n 0, 1) := by decide +kernel
theorem d_M_reconcile_1 : decode b_M_reconcile 1 = .ok (.aload_n 0, 1) := by decide +kernel
theorem d_M_reconcile_2 : decode b_M_reconcile 2 = .ok (.iload_n 1, 1) := by decide +kernel
theorem d_M_reconcile_3 : decode b_M_reconcile 3 = .ok (.iconst 1, 1) := by decide +kernel
theorem d_M_reconcile_4 : decode b_M_reconcile 4 = .ok (.invokevirtual 52, 3) := by decide +kernel
theorem d_M_reconcile_7 : decode b_M_reconcile 7 = .ok (.invokevirtual 58, 3) := by decide +kernel
theorem d_M_reconcile_10 : decode b_M_reconcile 10 = .ok (.ifCond .eq 24, 3) := by decide +kernel
theorem d_M_reconcile_13 : decode b_M_reconcile 13 = .ok (.aload_n 0, 1) := by decide +kernel
theorem d_M_reconcile_14 : decode b_M_reconcile 14 = .ok (.getfield 27, 3) := by decide +kernel
theorem d_M_reconcile_17 : decode b_M_reconcile 17 = .ok (.iload_n 1, 1) := by decide +kernel
theorem d_M_reconcile_18 : decode b_M_reconcile 18 = .ok (.iaload, 1) := by decide +kernel
theorem d_M_reconcile_19 : decode b_M_reconcile 19 = .ok (.iload_n 2, 1) := by decide +kernel
theorem d_M_reconcile_20 : decode b_M_reconcile 20 = .ok (.if_icmp .ne 14, 3) := by decide +kernel
theorem d_M_reconcile_23 : decode b_M_reconcile 23 = .ok (.aload_n 0, 1) := by decide +kernel
theorem d_M_reconcile_24 : decode b_M_reconcile 24 = .ok (.getfield 30, 3) := by decide +kernel
theorem d_M_reconcile_27 : decode b_M_reconcile 27 = .ok (.iload_n 1, 1) := by decide +kernel
theorem d_M_reconcile_28 : decode b_M_reconcile 28 = .ok (.laload, 1) := by decide +kernel
theorem d_M_reconcile_29 : decode b_M_reconcile 29 = .ok (.lload_n 3, 1) := by decide +kernel
theorem d_M_reconcile_30 : decode b_M_reconcile 30 = .ok (.lcmp, 1) := by decide +kernel
theorem d_M_reconcile_31 : decode b_M_reconcile 31 = .ok (.ifCond .eq 5, 3) := by decide +kernel
theorem d_M_reconcile_34 : decode b_M_reconcile 34 = .ok (.iconst 0, 1) := by decide +kernel
theorem d_M_reconcile_35 : decode b_M_reconcile 35 = .ok (.ireturn, 1) := by decide +kernel
theorem d_M_reconcile_36 : decode b_M_reconcile 36 = .ok (.aload_n 0, 1) := by decide +kernel
theorem d_M_reconcile_37 : decode b_M_reconcile 37 = .ok (.getfield 27, 3) := by decide +kernel
theorem d_M_reconcile_40 : decode b_M_reconcile 40 = .ok (.iload_n 1, 1) := by decide +kernel
theorem d_M_reconcile_41 : decode b_M_reconcile 41 = .ok (.iconst 0, 1) := by decide +kernel
theorem d_M_reconcile_42 : decode b_M_reconcile 42 = .ok (.iastore, 1) := by decide +kernel
theorem d_M_reconcile_43 : decode b_M_reconcile 43 = .ok (.aload_n 0, 1) := by decide +kernel
theorem d_M_reconcile_44 : decode b_M_reconcile 44 = .ok (.getfield 30, 3) := by decide +kernel
theorem d_M_reconcile_47 : decode b_M_reconcile 47 = .ok (.iload_n 1, 1) := by decide +kernel
theorem d_M_reconcile_48 : decode b_M_reconcile 48 = .ok (.lconst 0, 1) := by decide +kernel
theorem d_M_reconcile_49 : decode b_M_reconcile 49 = .ok (.lastore, 1) := by decide +kernel
theorem d_M_reconcile_50 : decode b_M_reconcile 50 = .ok (.iconst 1, 1) := by decide +kernel
theorem d_M_reconcile_51 : decode b_M_reconcile 51 = .ok (.ireturn, 1) := by decide +kernel
theorem d_M_batch_0 : decode b_M_batch 0 = .ok (.aload_n 0, 1) := by decide +kernel
theorem d_M_batch_1 : decode b_M_batch 1 = .ok (.aload_n 0, 1) := by decide +kernel
theorem d_M_batch_2 : decode b_M_batch 2 = .ok (.iload_n 1, 1) := by decide +kernel
theorem d_M_batch_3 : decode b_M_batch 3 = .ok (.iconst 1, 1) := by decide +kernel
theorem d_M_batch_4 : decode b_M_batch 4 = .ok (.invokevirtual 52, 3) := by decide +kernel
theorem d_M_batch_7 : decode b_M_batch 7 = .ok (.ifCond .eq 16, 3) := by decide +kernel
theorem d_M_batch_10 : decode b_M_batch 10 = .ok (.iload_n 2, 1) := by decide +kernel
theorem d_M_batch_11 : decode b_M_batch 11 = .ok (.ifCond .eq 8, 3) := by decide +kernel
theorem d_M_batch_14 : decode b_M_batch 14 = .ok (.iload_n 2, 1) := by decide +kernel
theorem d_M_batch_15 : decode b_M_batch 15 = .ok (.iconst 1, 1) := by decide +kernel
theorem d_M_batch_16 : decode b_M_batch 16 = .ok (.if_icmp .ne 7, 3) := by decide +kernel
theorem d_M_batch_19 : decode b_M_batch 19 = .ok (.iconst 1, 1) := by decide +kernel
theorem d_M_batch_20 : decode b_M_batch 20 = .ok (.goto 4, 3) := by decide +kernel
theorem d_M_batch_23 : decode b_M_batch 23 = .ok (.iconst 0, 1) := by decide +kernel
theorem d_M_batch_24 : decode b_M_batch 24 = .ok (.invokevirtual 58, 3) := by decide +kernel
theorem d_M_batch_27 : decode b_M_batch 27 = .ok (.ifCond .ne 5, 3) := by decide +kernel
theorem d_M_batch_30 : decode b_M_batch 30 = .ok (.lconst 0, 1) := by decide +kernel
theorem d_M_batch_31 : decode b_M_batch 31 = .ok (.lreturn, 1) := by decide +kernel
theorem d_M_batch_32 : decode b_M_batch 32 = .ok (.iload_n 2, 1) := by decide +kernel
theorem d_M_batch_33 : decode b_M_batch 33 = .ok (.ifCond .ne 13, 3) := by decide +kernel
theorem d_M_batch_36 : decode b_M_batch 36 = .ok (.aload_n 0, 1) := by decide +kernel
theorem d_M_batch_37 : decode b_M_batch 37 = .ok (.getfield 27, 3) := by decide +kernel
theorem d_M_batch_40 : decode b_M_batch 40 = .ok (.iload_n 1, 1) := by decide +kernel
theorem d_M_batch_41 : decode b_M_batch 41 = .ok (.iaload, 1) := by decide +kernel
theorem d_M_batch_42 : decode b_M_batch 42 = .ok (.i2l, 1) := by decide +kernel
theorem d_M_batch_43 : decode b_M_batch 43 = .ok (.goto 9, 3) := by decide +kernel
theorem d_M_batch_46 : decode b_M_batch 46 = .ok (.aload_n 0, 1) := by decide +kernel
theorem d_M_batch_47 : decode b_M_batch 47 = .ok (.getfield 30, 3) := by decide +kernel
theorem d_M_batch_50 : decode b_M_batch 50 = .ok (.iload_n 1, 1) := by decide +kernel
theorem d_M_batch_51 : decode b_M_batch 51 = .ok (.laload, 1) := by decide +kernel
theorem d_M_batch_52 : decode b_M_batch 52 = .ok (.lreturn, 1) := by decide +kernel
theorem d_M_settle_0 : decode b_M_settle 0 = .ok (.aload_n 0, 1) := by decide +kernel
theorem d_M_settle_1 : decode b_M_settle 1 = .ok (.iconst 0, 1) := by decide +kernel
theorem d_M_settle_2 : decode b_M_settle 2 = .ok (.putfield 45, 3) := by decide +kernel
theorem d_M_settle_5 : decode b_M_settle 5 = .ok (.iconst 0, 1) := by decide +kernel
theorem d_M_settle_6 : decode b_M_settle 6 = .ok (.istore_n 1, 1) := by decide +kernel
theorem d_M_settle_7 : decode b_M_settle 7 = .ok (.iload_n 1, 1) := by decide +kernel
theorem d_M_settle_8 : decode b_M_settle 8 = .ok (.aload_n 0, 1) := by decide +kernel
theorem d_M_settle_9 : decode b_M_settle 9 = .ok (.getfield 7, 3) := by decide +kernel
theorem d_M_settle_12 : decode b_M_settle 12 = .ok (.if_icmp .ge 43, 3) := by decide +kernel
theorem d_M_settle_15 : decode b_M_settle 15 = .ok (.aload_n 0, 1) := by decide +kernel
theorem d_M_settle_16 : decode b_M_settle 16 = .ok (.getfield 33, 3) := by decide +kernel
theorem d_M_settle_19 : decode b_M_settle 19 = .ok (.iload_n 1, 1) := by decide +kernel
theorem d_M_settle_20 : decode b_M_settle 20 = .ok (.aload_n 0, 1) := by decide +kernel
theorem d_M_settle_21 : decode b_M_settle 21 = .ok (.getfield 20, 3) := by decide +kernel
theorem d_M_settle_24 : decode b_M_settle 24 = .ok (.iload_n 1, 1) := by decide +kernel
theorem d_M_settle_25 : decode b_M_settle 25 = .ok (.laload, 1) := by decide +kernel
theorem d_M_settle_26 : decode b_M_settle 26 = .ok (.lastore, 1) := by decide +kernel
theorem d_M_settle_27 : decode b_M_settle 27 = .ok (.aload_n 0, 1) := by decide +kernel
theorem d_M_settle_28 : decode b_M_settle 28 = .ok (.getfield 24, 3) := by decide +kernel
theorem d_M_settle_31 : decode b_M_settle 31 = .ok (.iload_n 1, 1) := by decide +kernel
theorem d_M_settle_32 : decode b_M_settle 32 = .ok (.dup2, 1) := by decide +kernel
theorem d_M_settle_33 : decode b_M_settle 33 = .ok (.laload, 1) := by decide +kernel
theorem d_M_settle_34 : decode b_M_settle 34 = .ok (.aload_n 0, 1) := by decide +kernel
theorem d_M_settle_35 : decode b_M_settle 35 = .ok (.getfield 20, 3) := by decide +kernel
theorem d_M_settle_38 : decode b_M_settle 38 = .ok (.iload_n 1, 1) := by decide +kernel
theorem d_M_settle_39 : decode b_M_settle 39 = .ok (.laload, 1) := by decide +kernel
theorem d_M_settle_40 : decode b_M_settle 40 = .ok (.ladd, 1) := by decide +kernel
theorem d_M_settle_41 : decode b_M_settle 41 = .ok (.lastore, 1) := by decide +kernel
theorem d_M_settle_42 : decode b_M_settle 42 = .ok (.aload_n 0, 1) := by decide +kernel
theorem d_M_settle_43 : decode b_M_settle 43 = .ok (.getfield 20, 3) := by decide +kernel
theorem d_M_settle_46 : decode b_M_settle 46 = .ok (.iload_n 1, 1) := by decide +kernel
theorem d_M_settle_47 : decode b_M_settle 47 = .ok (.lconst 0, 1) := by decide +kernel
theorem d_M_settle_48 : decode b_M_settle 48 = .ok (.lastore, 1) := by decide +kernel
theorem d_M_settle_49 : decode b_M_settle 49 = .ok (.iinc 1 1, 3) := by decide +kernel
theorem d_M_settle_52 : decode b_M_settle 52 = .ok (.goto (-45), 3) := by decide +kernel
theorem d_M_settle_55 : decode b_M_settle 55 = .ok (.aload_n 0, 1) := by decide +kernel
theorem d_M_settle_56 : decode b_M_settle 56 = .ok (.iconst 0, 1) := by decide +kernel
theorem d_M_settle_57 : decode b_M_settle 57 = .ok (.putfield 66, 3) := by decide +kernel
theorem d_M_settle_60 : decode b_M_settle 60 = .ok (.iconst 1, 1) := by decide +kernel
theorem d_M_settle_61 : decode b_M_settle 61 = .ok (.istore_n 1, 1) := by decide +kernel
theorem d_M_settle_62 : decode b_M_settle 62 = .ok (.iload_n 1, 1) := by decide +kernel
theorem d_M_settle_63 : decode b_M_settle 63 = .ok (.ifCond .eq 195, 3) := by decide +kernel
theorem d_M_settle_66 : decode b_M_settle 66 = .ok (.iconst 0, 1) := by decide +kernel
theorem d_M_settle_67 : decode b_M_settle 67 = .ok (.istore_n 2, 1) := by decide +kernel
theorem d_M_settle_68 : decode b_M_settle 68 = .ok (.iconst 0, 1) := by decide +kernel
theorem d_M_settle_69 : decode b_M_settle 69 = .ok (.istore_n 3, 1) := by decide +kernel
theorem d_M_settle_70 : decode b_M_settle 70 = .ok (.iconst 1, 1) := by decide +kernel
theorem d_M_settle_71 : decode b_M_settle 71 = .ok (.istore 4, 2) := by decide +kernel
theorem d_M_settle_73 : decode b_M_settle 73 = .ok (.iload 4, 2) := by decide +kernel
theorem d_M_settle_75 : decode b_M_settle 75 = .ok (.aload_n 0, 1) := by decide +kernel
theorem d_M_settle_76 : decode b_M_settle 76 = .ok (.getfield 7, 3) := by decide +kernel
theorem d_M_settle_79 : decode b_M_settle 79 = .ok (.if_icmp .ge 57, 3) := by decide +kernel
theorem d_M_settle_82 : decode b_M_settle 82 = .ok (.aload_n 0, 1) := by decide +kernel
theorem d_M_settle_83 : decode b_M_settle 83 = .ok (.getfield 33, 3) := by decide +kernel
theorem d_M_settle_86 : decode b_M_settle 86 = .ok (.iload 4, 2) := by decide +kernel
theorem d_M_settle_88 : decode b_M_settle 88 = .ok (.laload, 1) := by decide +kernel
theorem d_M_settle_89 : decode b_M_settle 89 = .ok (.aload_n 0, 1) := by decide +kernel
theorem d_M_settle_90 : decode b_M_settle 90 = .ok (.getfield 33, 3) := by decide +kernel
theorem d_M_settle_93 : decode b_M_settle 93 = .ok (.iload_n 2, 1) := by decide +kernel
theorem d_M_settle_94 : decode b_M_settle 94 = .ok (.laload, 1) := by decide +kernel
theorem d_M_settle_95 : decode b_M_settle 95 = .ok (.lcmp, 1) := by decide +kernel
theorem d_M_settle_96 : decode b_M_settle 96 = .ok (.ifCond .ge 8, 3) := by decide +kernel
theorem d_M_settle_99 : decode b_M_settle 99 = .ok (.iload 4, 2) := by decide +kernel
theorem d_M_settle_101 : decode b_M_settle 101 = .ok (.goto 4, 3) := by decide +kernel
theorem d_M_settle_104 : decode b_M_settle 104 = .ok (.iload_n 2, 1) := by decide +kernel
theorem d_M_settle_105 : decode b_M_settle 105 = .ok (.istore_n 2, 1) := by decide +kernel
theorem d_M_settle_106 : decode b_M_settle 106 = .ok (.aload_n 0, 1) := by decide +kernel
theorem d_M_settle_107 : decode b_M_settle 107 = .ok (.getfield 33, 3) := by decide +kernel
theorem d_M_settle_110 : decode b_M_settle 110 = .ok (.iload 4, 2) := by decide +kernel
theorem d_M_settle_112 : decode b_M_settle 112 = .ok (.laload, 1) := by decide +kernel
theorem d_M_settle_113 : decode b_M_settle 113 = .ok (.aload_n 0, 1) := by decide +kernel
theorem d_M_settle_114 : decode b_M_settle 114 = .ok (.getfield 33, 3) := by decide +kernel
theorem d_M_settle_117 : decode b_M_settle 117 = .ok (.iload_n 3, 1) := by decide +kernel
theorem d_M_settle_118 : decode b_M_settle 118 = .ok (.laload, 1) := by decide +kernel
theorem d_M_settle_119 : decode b_M_settle 119 = .ok (.lcmp, 1) := by decide +kernel
theorem d_M_settle_120 : decode b_M_settle 120 = .ok (.ifCond .le 8, 3) := by decide +kernel
theorem d_M_settle_123 : decode b_M_settle 123 = .ok (.iload 4, 2) := by decide +kernel
theorem d_M_settle_125 : decode b_M_settle 125 = .ok (.goto 4, 3) := by decide +kernel
theorem d_M_settle_128 : decode b_M_settle 128 = .ok (.iload_n 3, 1) := by decide +kernel
theorem d_M_settle_129 : decode b_M_settle 129 = .ok (.istore_n 3, 1) := by decide +kernel
theorem d_M_settle_130 : decode b_M_settle 130 = .ok (.iinc 4 1, 3) := by decide +kernel
theorem d_M_settle_133 : decode b_M_settle 133 = .ok (.goto (-60), 3) := by decide +kernel
theorem d_M_settle_136 : decode b_M_settle 136 = .ok (.aload_n 0, 1) := by decide +kernel
theorem d_M_settle_137 : decode b_M_settle 137 = .ok (.getfield 33, 3) := by decide +kernel
theorem d_M_settle_140 : decode b_M_settle 140 = .ok (.iload_n 2, 1) := by decide +kernel
theorem d_M_settle_141 : decode b_M_settle 141 = .ok (.laload, 1) := by decide +kernel
theorem d_M_settle_142 : decode b_M_settle 142 = .ok (.lconst 0, 1) := by decide +kernel
theorem d_M_settle_143 : decode b_M_settle 143 = .ok (.lcmp, 1) := by decide +kernel
theorem d_M_settle_144 : decode b_M_settle 144 = .ok (.ifCond .ge 7, 3) := by decide +kernel
theorem d_M_settle_147 : decode b_M_settle 147 = .ok (.iconst 1, 1) := by decide +kernel
theorem d_M_settle_148 : decode b_M_settle 148 = .ok (.goto 4, 3) := by decide +kernel
theorem d_M_settle_151 : decode b_M_settle 151 = .ok (.iconst 0, 1) := by decide +kernel
theorem d_M_settle_152 : decode b_M_settle 152 = .ok (.istore_n 1, 1) := by decide +kernel
theorem d_M_settle_153 : decode b_M_settle 153 = .ok (.iload_n 1, 1) := by decide +kernel
theorem d_M_settle_154 : decode b_M_settle 154 = .ok (.ifCond .eq 101, 3) := by decide +kernel
theorem d_M_settle_157 : decode b_M_settle 157 = .ok (.aload_n 0, 1) := by decide +kernel
theorem d_M_settle_158 : decode b_M_settle 158 = .ok (.getfield 33, 3) := by decide +kernel
theorem d_M_settle_161 : decode b_M_settle 161 = .ok (.iload_n 2, 1) := by decide +kernel
theorem d_M_settle_162 : decode b_M_settle 162 = .ok (.laload, 1) := by decide +kernel
theorem d_M_settle_163 : decode b_M_settle 163 = .ok (.lneg, 1) := by decide +kernel
theorem d_M_settle_164 : decode b_M_settle 164 = .ok (.aload_n 0, 1) := by decide +kernel
theorem d_M_settle_165 : decode b_M_settle 165 = .ok (.getfield 33, 3) := by decide +kernel
theorem d_M_settle_168 : decode b_M_settle 168 = .ok (.iload_n 3, 1) := by decide +kernel
theorem d_M_settle_169 : decode b_M_settle 169 = .ok (.laload, 1) := by decide +kernel
theorem d_M_settle_170 : decode b_M_settle 170 = .ok (.lcmp, 1) := by decide +kernel
theorem d_M_settle_171 : decode b_M_settle 171 = .ok (.ifCond .ge 13, 3) := by decide +kernel
theorem d_M_settle_174 : decode b_M_settle 174 = .ok (.aload_n 0, 1) := by decide +kernel
theorem d_M_settle_175 : decode b_M_settle 175 = .ok (.getfield 33, 3) := by decide +kernel
theorem d_M_settle_178 : decode b_M_settle 178 = .ok (.iload_n 2, 1) := by decide +kernel
theorem d_M_settle_179 : decode b_M_settle 179 = .ok (.laload, 1) := by decide +kernel
theorem d_M_settle_180 : decode b_M_settle 180 = .ok (.lneg, 1) := by decide +kernel
theorem d_M_settle_181 : decode b_M_settle 181 = .ok (.goto 9, 3) := by decide +kernel
theorem d_M_settle_184 : decode b_M_settle 184 = .ok (.aload_n 0, 1) := by decide +kernel
theorem d_M_settle_185 : decode b_M_settle 185 = .ok (.getfield 33, 3) := by decide +kernel
theorem d_M_settle_188 : decode b_M_settle 188 = .ok (.iload_n 3, 1) := by decide +kernel
theorem d_M_settle_189 : decode b_M_settle 189 = .ok (.laload, 1) := by decide +kernel
theorem d_M_settle_190 : decode b_M_settle 190 = .ok (.lstore 4, 2) := by decide +kernel
theorem d_M_settle_192 : decode b_M_settle 192 = .ok (.aload_n 0, 1) := by decide +kernel
theorem d_M_settle_193 : decode b_M_settle 193 = .ok (.getfield 33, 3) := by decide +kernel
theorem d_M_settle_196 : decode b_M_settle 196 = .ok (.iload_n 2, 1) := by decide +kernel
theorem d_M_settle_197 : decode b_M_settle 197 = .ok (.dup2, 1) := by decide +kernel
theorem d_M_settle_198 : decode b_M_settle 198 = .ok (.laload, 1) := by decide +kernel
theorem d_M_settle_199 : decode b_M_settle 199 = .ok (.lload 4, 2) := by decide +kernel
theorem d_M_settle_201 : decode b_M_settle 201 = .ok (.ladd, 1) := by decide +kernel
theorem d_M_settle_202 : decode b_M_settle 202 = .ok (.lastore, 1) := by decide +kernel
theorem d_M_settle_203 : decode b_M_settle 203 = .ok (.aload_n 0, 1) := by decide +kernel
theorem d_M_settle_204 : decode b_M_settle 204 = .ok (.getfield 33, 3) := by decide +kernel
theorem d_M_settle_207 : decode b_M_settle 207 = .ok (.iload_n 3, 1) := by decide +kernel
theorem d_M_settle_208 : decode b_M_settle 208 = .ok (.dup2, 1) := by decide +kernel
theorem d_M_settle_209 : decode b_M_settle 209 = .ok (.laload, 1) := by decide +kernel
theorem d_M_settle_210 : decode b_M_settle 210 = .ok (.lload 4, 2) := by decide +kernel
theorem d_M_settle_212 : decode b_M_settle 212 = .ok (.lsub, 1) := by decide +kernel
theorem d_M_settle_213 : decode b_M_settle 213 = .ok (.lastore, 1) := by decide +kernel
theorem d_M_settle_214 : decode b_M_settle 214 = .ok (.aload_n 0, 1) := by decide +kernel
theorem d_M_settle_215 : decode b_M_settle 215 = .ok (.getfield 36, 3) := by decide +kernel
theorem d_M_settle_218 : decode b_M_settle 218 = .ok (.aload_n 0, 1) := by decide +kernel
theorem d_M_settle_219 : decode b_M_settle 219 = .ok (.getfield 66, 3) := by decide +kernel
theorem d_M_settle_222 : decode b_M_settle 222 = .ok (.iload_n 2, 1) := by decide +kernel
theorem d_M_settle_223 : decode b_M_settle 223 = .ok (.iastore, 1) := by decide +kernel
theorem d_M_settle_224 : decode b_M_settle 224 = .ok (.aload_n 0, 1) := by decide +kernel
theorem d_M_settle_225 : decode b_M_settle 225 = .ok (.getfield 39, 3) := by decide +kernel
theorem d_M_settle_228 : decode b_M_settle 228 = .ok (.aload_n 0, 1) := by decide +kernel
theorem d_M_settle_229 : decode b_M_settle 229 = .ok (.getfield 66, 3) := by decide +kernel
theorem d_M_settle_232 : decode b_M_settle 232 = .ok (.iload_n 3, 1) := by decide +kernel
theorem d_M_settle_233 : decode b_M_settle 233 = .ok (.iastore, 1) := by decide +kernel
theorem d_M_settle_234 : decode b_M_settle 234 = .ok (.aload_n 0, 1) := by decide +kernel
theorem d_M_settle_235 : decode b_M_settle 235 = .ok (.getfield 42, 3) := by decide +kernel
theorem d_M_settle_238 : decode b_M_settle 238 = .ok (.aload_n 0, 1) := by decide +kernel
theorem d_M_settle_239 : decode b_M_settle 239 = .ok (.getfield 66, 3) := by decide +kernel
theorem d_M_settle_242 : decode b_M_settle 242 = .ok (.lload 4, 2) := by decide +kernel
theorem d_M_settle_244 : decode b_M_settle 244 = .ok (.lastore, 1) := by decide +kernel
theorem d_M_settle_245 : decode b_M_settle 245 = .ok (.aload_n 0, 1) := by decide +kernel
theorem d_M_settle_246 : decode b_M_settle 246 = .ok (.dup, 1) := by decide +kernel
theorem d_M_settle_247 : decode b_M_settle 247 = .ok (.getfield 66, 3) := by decide +kernel
theorem d_M_settle_250 : decode b_M_settle 250 = .ok (.iconst 1, 1) := by decide +kernel
theorem d_M_settle_251 : decode b_M_settle 251 = .ok (.iadd, 1) := by decide +kernel
theorem d_M_settle_252 : decode b_M_settle 252 = .ok (.putfield 66, 3) := by decide +kernel
theorem d_M_settle_255 : decode b_M_settle 255 = .ok (.goto (-193), 3) := by decide +kernel
theorem d_M_settle_258 : decode b_M_settle 258 = .ok (.aload_n 0, 1) := by decide +kernel
theorem d_M_settle_259 : decode b_M_settle 259 = .ok (.getfield 66, 3) := by decide +kernel
theorem d_M_settle_262 : decode b_M_settle 262 = .ok (.ireturn, 1) := by decide +kernel
theorem d_M_transfer_0 : decode b_M_transfer 0 = .ok (.aload_n 0, 1) := by decide +kernel
theorem d_M_transfer_1 : decode b_M_transfer 1 = .ok (.iload_n 1, 1) := by decide +kernel
theorem d_M_transfer_2 : decode b_M_transfer 2 = .ok (.ifCond .lt 24, 3) := by decide +kernel
theorem d_M_transfer_5 : decode b_M_transfer 5 = .ok (.iload_n 1, 1) := by decide +kernel
theorem d_M_transfer_6 : decode b_M_transfer 6 = .ok (.aload_n 0, 1) := by decide +kernel
theorem d_M_transfer_7 : decode b_M_transfer 7 = .ok (.getfield 66, 3) := by decide +kernel
theorem d_M_transfer_10 : decode b_M_transfer 10 = .ok (.if_icmp .ge 16, 3) := by decide +kernel
theorem d_M_transfer_13 : decode b_M_transfer 13 = .ok (.iload_n 2, 1) := by decide +kernel
theorem d_M_transfer_14 : decode b_M_transfer 14 = .ok (.ifCond .lt 12, 3) := by decide +kernel
theorem d_M_transfer_17 : decode b_M_transfer 17 = .ok (.iload_n 2, 1) := by decide +kernel
theorem d_M_transfer_18 : decode b_M_transfer 18 = .ok (.iconst 2, 1) := by decide +kernel
theorem d_M_transfer_19 : decode b_M_transfer 19 = .ok (.if_icmp .gt 7, 3) := by decide +kernel
theorem d_M_transfer_22 : decode b_M_transfer 22 = .ok (.iconst 1, 1) := by decide +kernel
theorem d_M_transfer_23 : decode b_M_transfer 23 = .ok (.goto 4, 3) := by decide +kernel
theorem d_M_transfer_26 : decode b_M_transfer 26 = .ok (.iconst 0, 1) := by decide +kernel
theorem d_M_transfer_27 : decode b_M_transfer 27 = .ok (.invokevirtual 58, 3) := by decide +kernel
theorem d_M_transfer_30 : decode b_M_transfer 30 = .ok (.ifCond .ne 5, 3) := by decide +kernel
theorem d_M_transfer_33 : decode b_M_transfer 33 = .ok (.lconst 0, 1) := by decide +kernel
theorem d_M_transfer_34 : decode b_M_transfer 34 = .ok (.lreturn, 1) := by decide +kernel
theorem d_M_transfer_35 : decode b_M_transfer 35 = .ok (.iload_n 2, 1) := by decide +kernel
theorem d_M_transfer_36 : decode b_M_transfer 36 = .ok (.ifCond .ne 13, 3) := by decide +kernel
theorem d_M_transfer_39 : decode b_M_transfer 39 = .ok (.aload_n 0, 1) := by decide +kernel
theorem d_M_transfer_40 : decode b_M_transfer 40 = .ok (.getfield 36, 3) := by decide +kernel
theorem d_M_transfer_43 : decode b_M_transfer 43 = .ok (.iload_n 1, 1) := by decide +kernel
theorem d_M_transfer_44 : decode b_M_transfer 44 = .ok (.iaload, 1) := by decide +kernel
theorem d_M_transfer_45 : decode b_M_transfer 45 = .ok (.i2l, 1) := by decide +kernel
theorem d_M_transfer_46 : decode b_M_transfer 46 = .ok (.goto 24, 3) := by decide +kernel
theorem d_M_transfer_49 : decode b_M_transfer 49 = .ok (.iload_n 2, 1) := by decide +kernel
theorem d_M_transfer_50 : decode b_M_transfer 50 = .ok (.iconst 1, 1) := by decide +kernel
theorem d_M_transfer_51 : decode b_M_transfer 51 = .ok (.if_icmp .ne 13, 3) := by decide +kernel
theorem d_M_transfer_54 : decode b_M_transfer 54 = .ok (.aload_n 0, 1) := by decide +kernel
theorem d_M_transfer_55 : decode b_M_transfer 55 = .ok (.getfield 39, 3) := by decide +kernel
theorem d_M_transfer_58 : decode b_M_transfer 58 = .ok (.iload_n 1, 1) := by decide +kernel
theorem d_M_transfer_59 : decode b_M_transfer 59 = .ok (.iaload, 1) := by decide +kernel
theorem d_M_transfer_60 : decode b_M_transfer 60 = .ok (.i2l, 1) := by decide +kernel
theorem d_M_transfer_61 : decode b_M_transfer 61 = .ok (.goto 9, 3) := by decide +kernel
theorem d_M_transfer_64 : decode b_M_transfer 64 = .ok (.aload_n 0, 1) := by decide +kernel
theorem d_M_transfer_65 : decode b_M_transfer 65 = .ok (.getfield 42, 3) := by decide +kernel
theorem d_M_transfer_68 : decode b_M_transfer 68 = .ok (.iload_n 1, 1) := by decide +kernel
theorem d_M_transfer_69 : decode b_M_transfer 69 = .ok (.laload, 1) := by decide +kernel
theorem d_M_transfer_70 : decode b_M_transfer 70 = .ok (.lreturn, 1) := by decide +kernel
theorem d_M_party_0 : decode b_M_party 0 = .ok (.aload_n 0, 1) := by decide +kernel
theorem d_M_party_1 : decode b_M_party 1 = .ok (.iload_n 1, 1) := by decide +kernel
theorem d_M_party_2 : decode b_M_party 2 = .ok (.ifCond .lt 24, 3) := by decide +kernel
theorem d_M_party_5 : decode b_M_party 5 = .ok (.iload_n 1, 1) := by decide +kernel
theorem d_M_party_6 : decode b_M_party 6 = .ok (.aload_n 0, 1) := by decide +kernel
theorem d_M_party_7 : decode b_M_party 7 = .ok (.getfield 7, 3) := by decide +kernel
theorem d_M_party_10 : decode b_M_party 10 = .ok (.if_icmp .ge 16, 3) := by decide +kernel
theorem d_M_party_13 : decode b_M_party 13 = .ok (.iload_n 2, 1) := by decide +kernel
theorem d_M_party_14 : decode b_M_party 14 = .ok (.ifCond .lt 12, 3) := by decide +kernel
theorem d_M_party_17 : decode b_M_party 17 = .ok (.iload_n 2, 1) := by decide +kernel
theorem d_M_party_18 : decode b_M_party 18 = .ok (.iconst 4, 1) := by decide +kernel
theorem d_M_party_19 : decode b_M_party 19 = .ok (.if_icmp .gt 7, 3) := by decide +kernel
theorem d_M_party_22 : decode b_M_party 22 = .ok (.iconst 1, 1) := by decide +kernel
theorem d_M_party_23 : decode b_M_party 23 = .ok (.goto 4, 3) := by decide +kernel
theorem d_M_party_26 : decode b_M_party 26 = .ok (.iconst 0, 1) := by decide +kernel
theorem d_M_party_27 : decode b_M_party 27 = .ok (.invokevirtual 58, 3) := by decide +kernel
theorem d_M_party_30 : decode b_M_party 30 = .ok (.ifCond .ne 5, 3) := by decide +kernel
theorem d_M_party_33 : decode b_M_party 33 = .ok (.lconst 0, 1) := by decide +kernel
theorem d_M_party_34 : decode b_M_party 34 = .ok (.lreturn, 1) := by decide +kernel
theorem d_M_party_35 : decode b_M_party 35 = .ok (.iload_n 2, 1) := by decide +kernel
theorem d_M_party_36 : decode b_M_party 36 = .ok (.iconst 4, 1) := by decide +kernel
theorem d_M_party_37 : decode b_M_party 37 = .ok (.if_icmp .ge 53, 3) := by decide +kernel
theorem d_M_party_40 : decode b_M_party 40 = .ok (.iload_n 2, 1) := by decide +kernel
theorem d_M_party_41 : decode b_M_party 41 = .ok (.ifCond .ne 12, 3) := by decide +kernel
theorem d_M_party_44 : decode b_M_party 44 = .ok (.aload_n 0, 1) := by decide +kernel
theorem d_M_party_45 : decode b_M_party 45 = .ok (.getfield 20, 3) := by decide +kernel
theorem d_M_party_48 : decode b_M_party 48 = .ok (.iload_n 1, 1) := by decide +kernel
theorem d_M_party_49 : decode b_M_party 49 = .ok (.laload, 1) := by decide +kernel
theorem d_M_party_50 : decode b_M_party 50 = .ok (.goto 39, 3) := by decide +kernel
theorem d_M_party_53 : decode b_M_party 53 = .ok (.iload_n 2, 1) := by decide +kernel
theorem d_M_party_54 : decode b_M_party 54 = .ok (.iconst 1, 1) := by decide +kernel
theorem d_M_party_55 : decode b_M_party 55 = .ok (.if_icmp .ne 12, 3) := by decide +kernel
theorem d_M_party_58 : decode b_M_party 58 = .ok (.aload_n 0, 1) := by decide +kernel
theorem d_M_party_59 : decode b_M_party 59 = .ok (.getfield 24, 3) := by decide +kernel
theorem d_M_party_62 : decode b_M_party 62 = .ok (.iload_n 1, 1) := by decide +kernel
theorem d_M_party_63 : decode b_M_party 63 = .ok (.laload, 1) := by decide +kernel
theorem d_M_party_64 : decode b_M_party 64 = .ok (.goto 25, 3) := by decide +kernel
theorem d_M_party_67 : decode b_M_party 67 = .ok (.iload_n 2, 1) := by decide +kernel
theorem d_M_party_68 : decode b_M_party 68 = .ok (.iconst 2, 1) := by decide +kernel
theorem d_M_party_69 : decode b_M_party 69 = .ok (.if_icmp .ne 13, 3) := by decide +kernel
theorem d_M_party_72 : decode b_M_party 72 = .ok (.aload_n 0, 1) := by decide +kernel
theorem d_M_party_73 : decode b_M_party 73 = .ok (.getfield 13, 3) := by decide +kernel
theorem d_M_party_76 : decode b_M_party 76 = .ok (.iload_n 1, 1) := by decide +kernel
theorem d_M_party_77 : decode b_M_party 77 = .ok (.iaload, 1) := by decide +kernel
theorem d_M_party_78 : decode b_M_party 78 = .ok (.i2l, 1) := by decide +kernel
theorem d_M_party_79 : decode b_M_party 79 = .ok (.goto 10, 3) := by decide +kernel
theorem d_M_party_82 : decode b_M_party 82 = .ok (.aload_n 0, 1) := by decide +kernel
theorem d_M_party_83 : decode b_M_party 83 = .ok (.getfield 17, 3) := by decide +kernel
theorem d_M_party_86 : decode b_M_party 86 = .ok (.iload_n 1, 1) := by decide +kernel
theorem d_M_party_87 : decode b_M_party 87 = .ok (.iaload, 1) := by decide +kernel
theorem d_M_party_88 : decode b_M_party 88 = .ok (.i2l, 1) := by decide +kernel
theorem d_M_party_89 : decode b_M_party 89 = .ok (.lreturn, 1) := by decide +kernel
theorem d_M_party_90 : decode b_M_party 90 = .ok (.iconst 0, 1) := by decide +kernel
theorem d_M_party_91 : decode b_M_party 91 = .ok (.istore_n 3, 1) := by decide +kernel
theorem d_M_party_92 : decode b_M_party 92 = .ok (.iconst 0, 1) := by decide +kernel
theorem d_M_party_93 : decode b_M_party 93 = .ok (.istore 4, 2) := by decide +kernel
theorem d_M_party_95 : decode b_M_party 95 = .ok (.iload 4, 2) := by decide +kernel
theorem d_M_party_97 : decode b_M_party 97 = .ok (.aload_n 0, 1) := by decide +kernel
theorem d_M_party_98 : decode b_M_party 98 = .ok (.getfield 7, 3) := by decide +kernel
theorem d_M_party_101 : decode b_M_party 101 = .ok (.if_icmp .ge 57, 3) := by decide +kernel
theorem d_M_party_104 : decode b_M_party 104 = .ok (.iload_n 3, 1) := by decide +kernel
theorem d_M_party_105 : decode b_M_party 105 = .ok (.aload_n 0, 1) := by decide +kernel
theorem d_M_party_106 : decode b_M_party 106 = .ok (.getfield 20, 3) := by decide +kernel
theorem d_M_party_109 : decode b_M_party 109 = .ok (.iload 4, 2) := by decide +kernel
theorem d_M_party_111 : decode b_M_party 111 = .ok (.laload, 1) := by decide +kernel
theorem d_M_party_112 : decode b_M_party 112 = .ok (.aload_n 0, 1) := by decide +kernel
theorem d_M_party_113 : decode b_M_party 113 = .ok (.getfield 20, 3) := by decide +kernel
theorem d_M_party_116 : decode b_M_party 116 = .ok (.iload_n 1, 1) := by decide +kernel
theorem d_M_party_117 : decode b_M_party 117 = .ok (.laload, 1) := by decide +kernel
theorem d_M_party_118 : decode b_M_party 118 = .ok (.lcmp, 1) := by decide +kernel
theorem d_M_party_119 : decode b_M_party 119 = .ok (.ifCond .gt 26, 3) := by decide +kernel
theorem d_M_party_122 : decode b_M_party 122 = .ok (.aload_n 0, 1) := by decide +kernel
theorem d_M_party_123 : decode b_M_party 123 = .ok (.getfield 20, 3) := by decide +kernel
theorem d_M_party_126 : decode b_M_party 126 = .ok (.iload 4, 2) := by decide +kernel
theorem d_M_party_128 : decode b_M_party 128 = .ok (.laload, 1) := by decide +kernel
theorem d_M_party_129 : decode b_M_party 129 = .ok (.aload_n 0, 1) := by decide +kernel
theorem d_M_party_130 : decode b_M_party 130 = .ok (.getfield 20, 3) := by decide +kernel
theorem d_M_party_133 : decode b_M_party 133 = .ok (.iload_n 1, 1) := by decide +kernel
theorem d_M_party_134 : decode b_M_party 134 = .ok (.laload, 1) := by decide +kernel
theorem d_M_party_135 : decode b_M_party 135 = .ok (.lcmp, 1) := by decide +kernel
theorem d_M_party_136 : decode b_M_party 136 = .ok (.ifCond .ne 13, 3) := by decide +kernel
theorem d_M_party_139 : decode b_M_party 139 = .ok (.iload 4, 2) := by decide +kernel
theorem d_M_party_141 : decode b_M_party 141 = .ok (.iload_n 1, 1) := by decide +kernel
theorem d_M_party_142 : decode b_M_party 142 = .ok (.if_icmp .ge 7, 3) := by decide +kernel
theorem d_M_party_145 : decode b_M_party 145 = .ok (.iconst 1, 1) := by decide +kernel
theorem d_M_party_146 : decode b_M_party 146 = .ok (.goto 4, 3) := by decide +kernel
theorem d_M_party_149 : decode b_M_party 149 = .ok (.iconst 0, 1) := by decide +kernel
theorem d_M_party_150 : decode b_M_party 150 = .ok (.iadd, 1) := by decide +kernel
theorem d_M_party_151 : decode b_M_party 151 = .ok (.istore_n 3, 1) := by decide +kernel
theorem d_M_party_152 : decode b_M_party 152 = .ok (.iinc 4 1, 3) := by decide +kernel
theorem d_M_party_155 : decode b_M_party 155 = .ok (.goto (-60), 3) := by decide +kernel
theorem d_M_party_158 : decode b_M_party 158 = .ok (.iload_n 3, 1) := by decide +kernel
theorem d_M_party_159 : decode b_M_party 159 = .ok (.i2l, 1) := by decide +kernel
theorem d_M_party_160 : decode b_M_party 160 = .ok (.lreturn, 1) := by decide +kernel
theorem d_M_parties_0 : decode b_M_parties 0 = .ok (.aload_n 0, 1) := by decide +kernel
theorem d_M_parties_1 : decode b_M_parties 1 = .ok (.iconst 0, 1) := by decide +kernel
theorem d_M_parties_2 : decode b_M_parties 2 = .ok (.putfield 45, 3) := by decide +kernel
theorem d_M_parties_5 : decode b_M_parties 5 = .ok (.aload_n 0, 1) := by decide +kernel
theorem d_M_parties_6 : decode b_M_parties 6 = .ok (.getfield 7, 3) := by decide +kernel
theorem d_M_parties_9 : decode b_M_parties 9 = .ok (.ireturn, 1) := by decide +kernel
theorem d_M_audit_0 : decode b_M_audit 0 = .ok (.aload_n 0, 1) := by decide +kernel
theorem d_M_audit_1 : decode b_M_audit 1 = .ok (.iconst 0, 1) := by decide +kernel
theorem d_M_audit_2 : decode b_M_audit 2 = .ok (.putfield 45, 3) := by decide +kernel
theorem d_M_audit_5 : decode b_M_audit 5 = .ok (.iconst 0, 1) := by decide +kernel
theorem d_M_audit_6 : decode b_M_audit 6 = .ok (.ireturn, 1) := by decide +kernel
theorem d_L_acquirer_0 : decode b_L_acquirer 0 = .ok (.aload_n 2, 1) := by decide +kernel
theorem d_L_acquirer_1 : decode b_L_acquirer 1 = .ok (.iconst 0, 1) := by decide +kernel
theorem d_L_acquirer_2 : decode b_L_acquirer 2 = .ok (.aload_n 0, 1) := by decide +kernel
theorem d_L_acquirer_3 : decode b_L_acquirer 3 = .ok (.iload_n 1, 1) := by decide +kernel
theorem d_L_acquirer_4 : decode b_L_acquirer 4 = .ok (.invokevirtual 7, 3) := by decide +kernel
theorem d_L_acquirer_7 : decode b_L_acquirer 7 = .ok (.i2l, 1) := by decide +kernel
theorem d_L_acquirer_8 : decode b_L_acquirer 8 = .ok (.lastore, 1) := by decide +kernel
theorem d_L_acquirer_9 : decode b_L_acquirer 9 = .ok (.goto 9, 3) := by decide +kernel
theorem d_L_acquirer_12 : decode b_L_acquirer 12 = .ok (.astore_n 3, 1) := by decide +kernel
theorem d_L_acquirer_13 : decode b_L_acquirer 13 = .ok (.iconst 1, 1) := by decide +kernel
theorem d_L_acquirer_14 : decode b_L_acquirer 14 = .ok (.ireturn, 1) := by decide +kernel
theorem d_L_acquirer_15 : decode b_L_acquirer 15 = .ok (.astore_n 3, 1) := by decide +kernel
theorem d_L_acquirer_16 : decode b_L_acquirer 16 = .ok (.iconst 2, 1) := by decide +kernel
theorem d_L_acquirer_17 : decode b_L_acquirer 17 = .ok (.ireturn, 1) := by decide +kernel
theorem d_L_acquirer_18 : decode b_L_acquirer 18 = .ok (.iconst 0, 1) := by decide +kernel
theorem d_L_acquirer_19 : decode b_L_acquirer 19 = .ok (.ireturn, 1) := by decide +kernel
theorem d_L_issuer_0 : decode b_L_issuer 0 = .ok (.aload_n 2, 1) := by decide +kernel
theorem d_L_issuer_1 : decode b_L_issuer 1 = .ok (.iconst 0, 1) := by decide +kernel
theorem d_L_issuer_2 : decode b_L_issuer 2 = .ok (.aload_n 0, 1) := by decide +kernel
theorem d_L_issuer_3 : decode b_L_issuer 3 = .ok (.iload_n 1, 1) := by decide +kernel
theorem d_L_issuer_4 : decode b_L_issuer 4 = .ok (.invokevirtual 17, 3) := by decide +kernel
theorem d_L_issuer_7 : decode b_L_issuer 7 = .ok (.i2l, 1) := by decide +kernel
theorem d_L_issuer_8 : decode b_L_issuer 8 = .ok (.lastore, 1) := by decide +kernel
theorem d_L_issuer_9 : decode b_L_issuer 9 = .ok (.goto 9, 3) := by decide +kernel
theorem d_L_issuer_12 : decode b_L_issuer 12 = .ok (.astore_n 3, 1) := by decide +kernel
theorem d_L_issuer_13 : decode b_L_issuer 13 = .ok (.iconst 1, 1) := by decide +kernel
theorem d_L_issuer_14 : decode b_L_issuer 14 = .ok (.ireturn, 1) := by decide +kernel
theorem d_L_issuer_15 : decode b_L_issuer 15 = .ok (.astore_n 3, 1) := by decide +kernel
theorem d_L_issuer_16 : decode b_L_issuer 16 = .ok (.iconst 2, 1) := by decide +kernel
theorem d_L_issuer_17 : decode b_L_issuer 17 = .ok (.ireturn, 1) := by decide +kernel
theorem d_L_issuer_18 : decode b_L_issuer 18 = .ok (.iconst 0, 1) := by decide +kernel
theorem d_L_issuer_19 : decode b_L_issuer 19 = .ok (.ireturn, 1) := by decide +kernel
theorem d_L_clear_0 : decode b_L_clear 0 = .ok (.aload 5, 2) := by decide +kernel
theorem d_L_clear_2 : decode b_L_clear 2 = .ok (.iconst 0, 1) := by decide +kernel
theorem d_L_clear_3 : decode b_L_clear 3 = .ok (.aload_n 0, 1) := by decide +kernel
theorem d_L_clear_4 : decode b_L_clear 4 = .ok (.iload_n 1, 1) := by decide +kernel
theorem d_L_clear_5 : decode b_L_clear 5 = .ok (.iload_n 2, 1) := by decide +kernel
theorem d_L_clear_6 : decode b_L_clear 6 = .ok (.lload_n 3, 1) := by decide +kernel
theorem d_L_clear_7 : decode b_L_clear 7 = .ok (.invokevirtual 20, 3) := by decide +kernel
theorem d_L_clear_10 : decode b_L_clear 10 = .ok (.lastore, 1) := by decide +kernel
theorem d_L_clear_11 : decode b_L_clear 11 = .ok (.goto 7, 3) := by decide +kernel
theorem d_L_clear_14 : decode b_L_clear 14 = .ok (.astore 6, 2) := by decide +kernel
theorem d_L_clear_16 : decode b_L_clear 16 = .ok (.iconst 1, 1) := by decide +kernel
theorem d_L_clear_17 : decode b_L_clear 17 = .ok (.ireturn, 1) := by decide +kernel
theorem d_L_clear_18 : decode b_L_clear 18 = .ok (.iconst 0, 1) := by decide +kernel
theorem d_L_clear_19 : decode b_L_clear 19 = .ok (.ireturn, 1) := by decide +kernel
theorem d_L_back_0 : decode b_L_back 0 = .ok (.aload 5, 2) := by decide +kernel
theorem d_L_back_2 : decode b_L_back 2 = .ok (.iconst 0, 1) := by decide +kernel
theorem d_L_back_3 : decode b_L_back 3 = .ok (.aload_n 0, 1) := by decide +kernel
theorem d_L_back_4 : decode b_L_back 4 = .ok (.iload_n 1, 1) := by decide +kernel
theorem d_L_back_5 : decode b_L_back 5 = .ok (.iload_n 2, 1) := by decide +kernel
theorem d_L_back_6 : decode b_L_back 6 = .ok (.lload_n 3, 1) := by decide +kernel
theorem d_L_back_7 : decode b_L_back 7 = .ok (.invokevirtual 24, 3) := by decide +kernel
theorem d_L_back_10 : decode b_L_back 10 = .ok (.lastore, 1) := by decide +kernel
theorem d_L_back_11 : decode b_L_back 11 = .ok (.goto 7, 3) := by decide +kernel
theorem d_L_back_14 : decode b_L_back 14 = .ok (.astore 6, 2) := by decide +kernel
theorem d_L_back_16 : decode b_L_back 16 = .ok (.iconst 1, 1) := by decide +kernel
theorem d_L_back_17 : decode b_L_back 17 = .ok (.ireturn, 1) := by decide +kernel
theorem d_L_back_18 : decode b_L_back 18 = .ok (.iconst 0, 1) := by decide +kernel
theorem d_L_back_19 : decode b_L_back 19 = .ok (.ireturn, 1) := by decide +kernel
theorem d_L_reconcile_0 : decode b_L_reconcile 0 = .ok (.aload 5, 2) := by decide +kernel
theorem d_L_reconcile_2 : decode b_L_reconcile 2 = .ok (.iconst 0, 1) := by decide +kernel
theorem d_L_reconcile_3 : decode b_L_reconcile 3 = .ok (.aload_n 0, 1) := by decide +kernel
theorem d_L_reconcile_4 : decode b_L_reconcile 4 = .ok (.iload_n 1, 1) := by decide +kernel
theorem d_L_reconcile_5 : decode b_L_reconcile 5 = .ok (.iload_n 2, 1) := by decide +kernel
theorem d_L_reconcile_6 : decode b_L_reconcile 6 = .ok (.lload_n 3, 1) := by decide +kernel
theorem d_L_reconcile_7 : decode b_L_reconcile 7 = .ok (.invokevirtual 27, 3) := by decide +kernel
theorem d_L_reconcile_10 : decode b_L_reconcile 10 = .ok (.ifCond .eq 7, 3) := by decide +kernel
theorem d_L_reconcile_13 : decode b_L_reconcile 13 = .ok (.lconst 1, 1) := by decide +kernel
theorem d_L_reconcile_14 : decode b_L_reconcile 14 = .ok (.goto 4, 3) := by decide +kernel
theorem d_L_reconcile_17 : decode b_L_reconcile 17 = .ok (.lconst 0, 1) := by decide +kernel
theorem d_L_reconcile_18 : decode b_L_reconcile 18 = .ok (.lastore, 1) := by decide +kernel
theorem d_L_reconcile_19 : decode b_L_reconcile 19 = .ok (.goto 7, 3) := by decide +kernel
theorem d_L_reconcile_22 : decode b_L_reconcile 22 = .ok (.astore 6, 2) := by decide +kernel
theorem d_L_reconcile_24 : decode b_L_reconcile 24 = .ok (.iconst 1, 1) := by decide +kernel
theorem d_L_reconcile_25 : decode b_L_reconcile 25 = .ok (.ireturn, 1) := by decide +kernel
theorem d_L_reconcile_26 : decode b_L_reconcile 26 = .ok (.iconst 0, 1) := by decide +kernel
theorem d_L_reconcile_27 : decode b_L_reconcile 27 = .ok (.ireturn, 1) := by decide +kernel
theorem d_L_batch_0 : decode b_L_batch 0 = .ok (.aload_n 3, 1) := by decide +kernel
theorem d_L_batch_1 : decode b_L_batch 1 = .ok (.iconst 0, 1) := by decide +kernel
theorem d_L_batch_2 : decode b_L_batch 2 = .ok (.aload_n 0, 1) := by decide +kernel
theorem d_L_batch_3 : decode b_L_batch 3 = .ok (.iload_n 1, 1) := by decide +kernel
theorem d_L_batch_4 : decode b_L_batch 4 = .ok (.iload_n 2, 1) := by decide +kernel
theorem d_L_batch_5 : decode b_L_batch 5 = .ok (.invokevirtual 31, 3) := by decide +kernel
theorem d_L_batch_8 : decode b_L_batch 8 = .ok (.lastore, 1) := by decide +kernel
theorem d_L_batch_9 : decode b_L_batch 9 = .ok (.goto 7, 3) := by decide +kernel
theorem d_L_batch_12 : decode b_L_batch 12 = .ok (.astore 4, 2) := by decide +kernel
theorem d_L_batch_14 : decode b_L_batch 14 = .ok (.iconst 1, 1) := by decide +kernel
theorem d_L_batch_15 : decode b_L_batch 15 = .ok (.ireturn, 1) := by decide +kernel
theorem d_L_batch_16 : decode b_L_batch 16 = .ok (.iconst 0, 1) := by decide +kernel
theorem d_L_batch_17 : decode b_L_batch 17 = .ok (.ireturn, 1) := by decide +kernel
theorem d_L_transfer_0 : decode b_L_transfer 0 = .ok (.aload_n 3, 1) := by decide +kernel
theorem d_L_transfer_1 : decode b_L_transfer 1 = .ok (.iconst 0, 1) := by decide +kernel
theorem d_L_transfer_2 : decode b_L_transfer 2 = .ok (.aload_n 0, 1) := by decide +kernel
theorem d_L_transfer_3 : decode b_L_transfer 3 = .ok (.iload_n 1, 1) := by decide +kernel
theorem d_L_transfer_4 : decode b_L_transfer 4 = .ok (.iload_n 2, 1) := by decide +kernel
theorem d_L_transfer_5 : decode b_L_transfer 5 = .ok (.invokevirtual 35, 3) := by decide +kernel
theorem d_L_transfer_8 : decode b_L_transfer 8 = .ok (.lastore, 1) := by decide +kernel
theorem d_L_transfer_9 : decode b_L_transfer 9 = .ok (.goto 7, 3) := by decide +kernel
theorem d_L_transfer_12 : decode b_L_transfer 12 = .ok (.astore 4, 2) := by decide +kernel
theorem d_L_transfer_14 : decode b_L_transfer 14 = .ok (.iconst 1, 1) := by decide +kernel
theorem d_L_transfer_15 : decode b_L_transfer 15 = .ok (.ireturn, 1) := by decide +kernel
theorem d_L_transfer_16 : decode b_L_transfer 16 = .ok (.iconst 0, 1) := by decide +kernel
theorem d_L_transfer_17 : decode b_L_transfer 17 = .ok (.ireturn, 1) := by decide +kernel
theorem d_L_party_0 : decode b_L_party 0 = .ok (.aload_n 3, 1) := by decide +kernel
theorem d_L_party_1 : decode b_L_party 1 = .ok (.iconst 0, 1) := by decide +kernel
theorem d_L_party_2 : decode b_L_party 2 = .ok (.aload_n 0, 1) := by decide +kernel
theorem d_L_party_3 : decode b_L_party 3 = .ok (.iload_n 1, 1) := by decide +kernel
theorem d_L_party_4 : decode b_L_party 4 = .ok (.iload_n 2, 1) := by decide +kernel
theorem d_L_party_5 : decode b_L_party 5 = .ok (.invokevirtual 38, 3) := by decide +kernel
theorem d_L_party_8 : decode b_L_party 8 = .ok (.lastore, 1) := by decide +kernel
theorem d_L_party_9 : decode b_L_party 9 = .ok (.goto 7, 3) := by decide +kernel
theorem d_L_party_12 : decode b_L_party 12 = .ok (.astore 4, 2) := by decide +kernel
theorem d_L_party_14 : decode b_L_party 14 = .ok (.iconst 1, 1) := by decide +kernel
theorem d_L_party_15 : decode b_L_party 15 = .ok (.ireturn, 1) := by decide +kernel
theorem d_L_party_16 : decode b_L_party 16 = .ok (.iconst 0, 1) := by decide +kernel
theorem d_L_party_17 : decode b_L_party 17 = .ok (.ireturn, 1) := by decide +kernel
end
section
theorem d_L_law_0 : decode b_L_law 0 = .ok (.new 8, 3) := by decide +kernel
theorem d_L_law_3 : decode b_L_law 3 = .ok (.dup, 1) := by decide +kernel
theorem d_L_law_4 : decode b_L_law 4 = .ok (.invokespecial 41, 3) := by decide +kernel
theorem d_L_law_7 : decode b_L_law 7 = .ok (.astore_n 1, 1) := by decide +kernel
theorem d_L_law_8 : decode b_L_law 8 = .ok (.new 42, 3) := by decide +kernel
theorem d_L_law_11 : decode b_L_law 11 = .ok (.dup, 1) := by decide +kernel
theorem d_L_law_12 : decode b_L_law 12 = .ok (.invokespecial 44, 3) := by decide +kernel
theorem d_L_law_15 : decode b_L_law 15 = .ok (.astore_n 2, 1) := by decide +kernel
theorem d_L_law_16 : decode b_L_law 16 = .ok (.iconst 1, 1) := by decide +kernel
theorem d_L_law_17 : decode b_L_law 17 = .ok (.newarray .long, 2) := by decide +kernel
theorem d_L_law_19 : decode b_L_law 19 = .ok (.astore_n 3, 1) := by decide +kernel
theorem d_L_law_20 : decode b_L_law 20 = .ok (.iconst 0, 1) := by decide +kernel
theorem d_L_law_21 : decode b_L_law 21 = .ok (.istore 4, 2) := by decide +kernel
theorem d_L_law_23 : decode b_L_law 23 = .ok (.iload 4, 2) := by decide +kernel
theorem d_L_law_25 : decode b_L_law 25 = .ok (.aload_n 0, 1) := by decide +kernel
theorem d_L_law_26 : decode b_L_law 26 = .ok (.arraylength, 1) := by decide +kernel
theorem d_L_law_27 : decode b_L_law 27 = .ok (.iconst 5, 1) := by decide +kernel
theorem d_L_law_28 : decode b_L_law 28 = .ok (.isub, 1) := by decide +kernel
theorem d_L_law_29 : decode b_L_law 29 = .ok (.if_icmp .gt 766, 3) := by decide +kernel
theorem d_L_law_32 : decode b_L_law 32 = .ok (.aload_n 0, 1) := by decide +kernel
theorem d_L_law_33 : decode b_L_law 33 = .ok (.iload 4, 2) := by decide +kernel
theorem d_L_law_35 : decode b_L_law 35 = .ok (.iaload, 1) := by decide +kernel
theorem d_L_law_36 : decode b_L_law 36 = .ok (.bipush 15, 2) := by decide +kernel
theorem d_L_law_38 : decode b_L_law 38 = .ok (.iand, 1) := by decide +kernel
theorem d_L_law_39 : decode b_L_law 39 = .ok (.tableswitch 750 0 10 #[57, 113, 169, 280, 391, 510, 577, 590, 657, 724, 737], 57) := by decide +kernel
theorem d_L_law_96 : decode b_L_law 96 = .ok (.aload_n 1, 1) := by decide +kernel
theorem d_L_law_97 : decode b_L_law 97 = .ok (.aload_n 0, 1) := by decide +kernel
theorem d_L_law_98 : decode b_L_law 98 = .ok (.iload 4, 2) := by decide +kernel
theorem d_L_law_100 : decode b_L_law 100 = .ok (.iconst 1, 1) := by decide +kernel
theorem d_L_law_101 : decode b_L_law 101 = .ok (.iadd, 1) := by decide +kernel
theorem d_L_law_102 : decode b_L_law 102 = .ok (.iaload, 1) := by decide +kernel
theorem d_L_law_103 : decode b_L_law 103 = .ok (.aload_n 3, 1) := by decide +kernel
theorem d_L_law_104 : decode b_L_law 104 = .ok (.invokestatic 45, 3) := by decide +kernel
theorem d_L_law_107 : decode b_L_law 107 = .ok (.istore 5, 2) := by decide +kernel
theorem d_L_law_109 : decode b_L_law 109 = .ok (.aload_n 2, 1) := by decide +kernel
theorem d_L_law_110 : decode b_L_law 110 = .ok (.aload_n 0, 1) := by decide +kernel
theorem d_L_law_111 : decode b_L_law 111 = .ok (.iload 4, 2) := by decide +kernel
theorem d_L_law_113 : decode b_L_law 113 = .ok (.iconst 1, 1) := by decide +kernel
theorem d_L_law_114 : decode b_L_law 114 = .ok (.iadd, 1) := by decide +kernel
theorem d_L_law_115 : decode b_L_law 115 = .ok (.iaload, 1) := by decide +kernel
theorem d_L_law_116 : decode b_L_law 116 = .ok (.invokevirtual 50, 3) := by decide +kernel
theorem d_L_law_119 : decode b_L_law 119 = .ok (.istore 6, 2) := by decide +kernel
theorem d_L_law_121 : decode b_L_law 121 = .ok (.aload_n 2, 1) := by decide +kernel
theorem d_L_law_122 : decode b_L_law 122 = .ok (.invokevirtual 51, 3) := by decide +kernel
theorem d_L_law_125 : decode b_L_law 125 = .ok (.iload 5, 2) := by decide +kernel
theorem d_L_law_127 : decode b_L_law 127 = .ok (.if_icmp .eq 5, 3) := by decide +kernel
theorem d_L_law_130 : decode b_L_law 130 = .ok (.iconst 0, 1) := by decide +kernel
theorem d_L_law_131 : decode b_L_law 131 = .ok (.ireturn, 1) := by decide +kernel
theorem d_L_law_132 : decode b_L_law 132 = .ok (.iload 5, 2) := by decide +kernel
theorem d_L_law_134 : decode b_L_law 134 = .ok (.ifCond .ne 15, 3) := by decide +kernel
theorem d_L_law_137 : decode b_L_law 137 = .ok (.aload_n 3, 1) := by decide +kernel
theorem d_L_law_138 : decode b_L_law 138 = .ok (.iconst 0, 1) := by decide +kernel
theorem d_L_law_139 : decode b_L_law 139 = .ok (.laload, 1) := by decide +kernel
theorem d_L_law_140 : decode b_L_law 140 = .ok (.iload 6, 2) := by decide +kernel
theorem d_L_law_142 : decode b_L_law 142 = .ok (.i2l, 1) := by decide +kernel
theorem d_L_law_143 : decode b_L_law 143 = .ok (.lcmp, 1) := by decide +kernel
theorem d_L_law_144 : decode b_L_law 144 = .ok (.ifCond .eq 5, 3) := by decide +kernel
theorem d_L_law_147 : decode b_L_law 147 = .ok (.iconst 0, 1) := by decide +kernel
theorem d_L_law_148 : decode b_L_law 148 = .ok (.ireturn, 1) := by decide +kernel
theorem d_L_law_149 : decode b_L_law 149 = .ok (.goto 640, 3) := by decide +kernel
theorem d_L_law_152 : decode b_L_law 152 = .ok (.aload_n 1, 1) := by decide +kernel
theorem d_L_law_153 : decode b_L_law 153 = .ok (.aload_n 0, 1) := by decide +kernel
theorem d_L_law_154 : decode b_L_law 154 = .ok (.iload 4, 2) := by decide +kernel
theorem d_L_law_156 : decode b_L_law 156 = .ok (.iconst 1, 1) := by decide +kernel
theorem d_L_law_157 : decode b_L_law 157 = .ok (.iadd, 1) := by decide +kernel
theorem d_L_law_158 : decode b_L_law 158 = .ok (.iaload, 1) := by decide +kernel
theorem d_L_law_159 : decode b_L_law 159 = .ok (.aload_n 3, 1) := by decide +kernel
theorem d_L_law_160 : decode b_L_law 160 = .ok (.invokestatic 55, 3) := by decide +kernel
theorem d_L_law_163 : decode b_L_law 163 = .ok (.istore 5, 2) := by decide +kernel
theorem d_L_law_165 : decode b_L_law 165 = .ok (.aload_n 2, 1) := by decide +kernel
theorem d_L_law_166 : decode b_L_law 166 = .ok (.aload_n 0, 1) := by decide +kernel
theorem d_L_law_167 : decode b_L_law 167 = .ok (.iload 4, 2) := by decide +kernel
theorem d_L_law_169 : decode b_L_law 169 = .ok (.iconst 1, 1) := by decide +kernel
theorem d_L_law_170 : decode b_L_law 170 = .ok (.iadd, 1) := by decide +kernel
theorem d_L_law_171 : decode b_L_law 171 = .ok (.iaload, 1) := by decide +kernel
theorem d_L_law_172 : decode b_L_law 172 = .ok (.invokevirtual 57, 3) := by decide +kernel
theorem d_L_law_175 : decode b_L_law 175 = .ok (.istore 6, 2) := by decide +kernel
theorem d_L_law_177 : decode b_L_law 177 = .ok (.aload_n 2, 1) := by decide +kernel
theorem d_L_law_178 : decode b_L_law 178 = .ok (.invokevirtual 51, 3) := by decide +kernel
theorem d_L_law_181 : decode b_L_law 181 = .ok (.iload 5, 2) := by decide +kernel
theorem d_L_law_183 : decode b_L_law 183 = .ok (.if_icmp .eq 5, 3) := by decide +kernel
theorem d_L_law_186 : decode b_L_law 186 = .ok (.iconst 0, 1) := by decide +kernel
theorem d_L_law_187 : decode b_L_law 187 = .ok (.ireturn, 1) := by decide +kernel
theorem d_L_law_188 : decode b_L_law 188 = .ok (.iload 5, 2) := by decide +kernel
theorem d_L_law_190 : decode b_L_law 190 = .ok (.ifCond .ne 15, 3) := by decide +kernel
theorem d_L_law_193 : decode b_L_law 193 = .ok (.aload_n 3, 1) := by decide +kernel
theorem d_L_law_194 : decode b_L_law 194 = .ok (.iconst 0, 1) := by decide +kernel
theorem d_L_law_195 : decode b_L_law 195 = .ok (.laload, 1) := by decide +kernel
theorem d_L_law_196 : decode b_L_law 196 = .ok (.iload 6, 2) := by decide +kernel
theorem d_L_law_198 : decode b_L_law 198 = .ok (.i2l, 1) := by decide +kernel
theorem d_L_law_199 : decode b_L_law 199 = .ok (.lcmp, 1) := by decide +kernel
theorem d_L_law_200 : decode b_L_law 200 = .ok (.ifCond .eq 5, 3) := by decide +kernel
theorem d_L_law_203 : decode b_L_law 203 = .ok (.iconst 0, 1) := by decide +kernel
theorem d_L_law_204 : decode b_L_law 204 = .ok (.ireturn, 1) := by decide +kernel
theorem d_L_law_205 : decode b_L_law 205 = .ok (.goto 584, 3) := by decide +kernel
theorem d_L_law_208 : decode b_L_law 208 = .ok (.aload_n 1, 1) := by decide +kernel
theorem d_L_law_209 : decode b_L_law 209 = .ok (.aload_n 0, 1) := by decide +kernel
theorem d_L_law_210 : decode b_L_law 210 = .ok (.iload 4, 2) := by decide +kernel
theorem d_L_law_212 : decode b_L_law 212 = .ok (.iconst 1, 1) := by decide +kernel
theorem d_L_law_213 : decode b_L_law 213 = .ok (.iadd, 1) := by decide +kernel
theorem d_L_law_214 : decode b_L_law 214 = .ok (.iaload, 1) := by decide +kernel
theorem d_L_law_215 : decode b_L_law 215 = .ok (.aload_n 0, 1) := by decide +kernel
theorem d_L_law_216 : decode b_L_law 216 = .ok (.iload 4, 2) := by decide +kernel
theorem d_L_law_218 : decode b_L_law 218 = .ok (.iconst 2, 1) := by decide +kernel
theorem d_L_law_219 : decode b_L_law 219 = .ok (.iadd, 1) := by decide +kernel
theorem d_L_law_220 : decode b_L_law 220 = .ok (.iaload, 1) := by decide +kernel
theorem d_L_law_221 : decode b_L_law 221 = .ok (.aload_n 0, 1) := by decide +kernel
theorem d_L_law_222 : decode b_L_law 222 = .ok (.iload 4, 2) := by decide +kernel
theorem d_L_law_224 : decode b_L_law 224 = .ok (.iconst 3, 1) := by decide +kernel
theorem d_L_law_225 : decode b_L_law 225 = .ok (.iadd, 1) := by decide +kernel
theorem d_L_law_226 : decode b_L_law 226 = .ok (.iaload, 1) := by decide +kernel
theorem d_L_law_227 : decode b_L_law 227 = .ok (.i2l, 1) := by decide +kernel
theorem d_L_law_228 : decode b_L_law 228 = .ok (.bipush 32, 2) := by decide +kernel
theorem d_L_law_230 : decode b_L_law 230 = .ok (.lshl, 1) := by decide +kernel
theorem d_L_law_231 : decode b_L_law 231 = .ok (.aload_n 0, 1) := by decide +kernel
theorem d_L_law_232 : decode b_L_law 232 = .ok (.iload 4, 2) := by decide +kernel
theorem d_L_law_234 : decode b_L_law 234 = .ok (.iconst 4, 1) := by decide +kernel
theorem d_L_law_235 : decode b_L_law 235 = .ok (.iadd, 1) := by decide +kernel
theorem d_L_law_236 : decode b_L_law 236 = .ok (.iaload, 1) := by decide +kernel
theorem d_L_law_237 : decode b_L_law 237 = .ok (.i2l, 1) := by decide +kernel
theorem d_L_law_238 : decode b_L_law 238 = .ok (.ldc2_w 58, 3) := by decide +kernel
theorem d_L_law_241 : decode b_L_law 241 = .ok (.land, 1) := by decide +kernel
theorem d_L_law_242 : decode b_L_law 242 = .ok (.lor, 1) := by decide +kernel
theorem d_L_law_243 : decode b_L_law 243 = .ok (.aload_n 3, 1) := by decide +kernel
theorem d_L_law_244 : decode b_L_law 244 = .ok (.invokestatic 60, 3) := by decide +kernel
theorem d_L_law_247 : decode b_L_law 247 = .ok (.istore 5, 2) := by decide +kernel
theorem d_L_law_249 : decode b_L_law 249 = .ok (.aload_n 2, 1) := by decide +kernel
theorem d_L_law_250 : decode b_L_law 250 = .ok (.aload_n 0, 1) := by decide +kernel
theorem d_L_law_251 : decode b_L_law 251 = .ok (.iload 4, 2) := by decide +kernel
theorem d_L_law_253 : decode b_L_law 253 = .ok (.iconst 1, 1) := by decide +kernel
theorem d_L_law_254 : decode b_L_law 254 = .ok (.iadd, 1) := by decide +kernel
theorem d_L_law_255 : decode b_L_law 255 = .ok (.iaload, 1) := by decide +kernel
theorem d_L_law_256 : decode b_L_law 256 = .ok (.aload_n 0, 1) := by decide +kernel
theorem d_L_law_257 : decode b_L_law 257 = .ok (.iload 4, 2) := by decide +kernel
theorem d_L_law_259 : decode b_L_law 259 = .ok (.iconst 2, 1) := by decide +kernel
theorem d_L_law_260 : decode b_L_law 260 = .ok (.iadd, 1) := by decide +kernel
theorem d_L_law_261 : decode b_L_law 261 = .ok (.iaload, 1) := by decide +kernel
theorem d_L_law_262 : decode b_L_law 262 = .ok (.aload_n 0, 1) := by decide +kernel
theorem d_L_law_263 : decode b_L_law 263 = .ok (.iload 4, 2) := by decide +kernel
theorem d_L_law_265 : decode b_L_law 265 = .ok (.iconst 3, 1) := by decide +kernel
theorem d_L_law_266 : decode b_L_law 266 = .ok (.iadd, 1) := by decide +kernel
theorem d_L_law_267 : decode b_L_law 267 = .ok (.iaload, 1) := by decide +kernel
theorem d_L_law_268 : decode b_L_law 268 = .ok (.i2l, 1) := by decide +kernel
theorem d_L_law_269 : decode b_L_law 269 = .ok (.bipush 32, 2) := by decide +kernel
theorem d_L_law_271 : decode b_L_law 271 = .ok (.lshl, 1) := by decide +kernel
theorem d_L_law_272 : decode b_L_law 272 = .ok (.aload_n 0, 1) := by decide +kernel
theorem d_L_law_273 : decode b_L_law 273 = .ok (.iload 4, 2) := by decide +kernel
theorem d_L_law_275 : decode b_L_law 275 = .ok (.iconst 4, 1) := by decide +kernel
theorem d_L_law_276 : decode b_L_law 276 = .ok (.iadd, 1) := by decide +kernel
theorem d_L_law_277 : decode b_L_law 277 = .ok (.iaload, 1) := by decide +kernel
theorem d_L_law_278 : decode b_L_law 278 = .ok (.i2l, 1) := by decide +kernel
theorem d_L_law_279 : decode b_L_law 279 = .ok (.ldc2_w 58, 3) := by decide +kernel
theorem d_L_law_282 : decode b_L_law 282 = .ok (.land, 1) := by decide +kernel
theorem d_L_law_283 : decode b_L_law 283 = .ok (.lor, 1) := by decide +kernel
theorem d_L_law_284 : decode b_L_law 284 = .ok (.invokevirtual 63, 3) := by decide +kernel
theorem d_L_law_287 : decode b_L_law 287 = .ok (.lstore 6, 2) := by decide +kernel
theorem d_L_law_289 : decode b_L_law 289 = .ok (.aload_n 2, 1) := by decide +kernel
theorem d_L_law_290 : decode b_L_law 290 = .ok (.invokevirtual 51, 3) := by decide +kernel
theorem d_L_law_293 : decode b_L_law 293 = .ok (.iload 5, 2) := by decide +kernel
theorem d_L_law_295 : decode b_L_law 295 = .ok (.if_icmp .eq 5, 3) := by decide +kernel
theorem d_L_law_298 : decode b_L_law 298 = .ok (.iconst 0, 1) := by decide +kernel
theorem d_L_law_299 : decode b_L_law 299 = .ok (.ireturn, 1) := by decide +kernel
theorem d_L_law_300 : decode b_L_law 300 = .ok (.iload 5, 2) := by decide +kernel
theorem d_L_law_302 : decode b_L_law 302 = .ok (.ifCond .ne 14, 3) := by decide +kernel
theorem d_L_law_305 : decode b_L_law 305 = .ok (.aload_n 3, 1) := by decide +kernel
theorem d_L_law_306 : decode b_L_law 306 = .ok (.iconst 0, 1) := by decide +kernel
theorem d_L_law_307 : decode b_L_law 307 = .ok (.laload, 1) := by decide +kernel
theorem d_L_law_308 : decode b_L_law 308 = .ok (.lload 6, 2) := by decide +kernel
theorem d_L_law_310 : decode b_L_law 310 = .ok (.lcmp, 1) := by decide +kernel
theorem d_L_law_311 : decode b_L_law 311 = .ok (.ifCond .eq 5, 3) := by decide +kernel
theorem d_L_law_314 : decode b_L_law 314 = .ok (.iconst 0, 1) := by decide +kernel
theorem d_L_law_315 : decode b_L_law 315 = .ok (.ireturn, 1) := by decide +kernel
theorem d_L_law_316 : decode b_L_law 316 = .ok (.goto 473, 3) := by decide +kernel
theorem d_L_law_319 : decode b_L_law 319 = .ok (.aload_n 1, 1) := by decide +kernel
theorem d_L_law_320 : decode b_L_law 320 = .ok (.aload_n 0, 1) := by decide +kernel
theorem d_L_law_321 : decode b_L_law 321 = .ok (.iload 4, 2) := by decide +kernel
theorem d_L_law_323 : decode b_L_law 323 = .ok (.iconst 1, 1) := by decide +kernel
theorem d_L_law_324 : decode b_L_law 324 = .ok (.iadd, 1) := by decide +kernel
theorem d_L_law_325 : decode b_L_law 325 = .ok (.iaload, 1) := by decide +kernel
theorem d_L_law_326 : decode b_L_law 326 = .ok (.aload_n 0, 1) := by decide +kernel
theorem d_L_law_327 : decode b_L_law 327 = .ok (.iload 4, 2) := by decide +kernel
theorem d_L_law_329 : decode b_L_law 329 = .ok (.iconst 2, 1) := by decide +kernel
theorem d_L_law_330 : decode b_L_law 330 = .ok (.iadd, 1) := by decide +kernel
theorem d_L_law_331 : decode b_L_law 331 = .ok (.iaload, 1) := by decide +kernel
theorem d_L_law_332 : decode b_L_law 332 = .ok (.aload_n 0, 1) := by decide +kernel
theorem d_L_law_333 : decode b_L_law 333 = .ok (.iload 4, 2) := by decide +kernel
theorem d_L_law_335 : decode b_L_law 335 = .ok (.iconst 3, 1) := by decide +kernel
theorem d_L_law_336 : decode b_L_law 336 = .ok (.iadd, 1) := by decide +kernel
theorem d_L_law_337 : decode b_L_law 337 = .ok (.iaload, 1) := by decide +kernel
theorem d_L_law_338 : decode b_L_law 338 = .ok (.i2l, 1) := by decide +kernel
theorem d_L_law_339 : decode b_L_law 339 = .ok (.bipush 32, 2) := by decide +kernel
theorem d_L_law_341 : decode b_L_law 341 = .ok (.lshl, 1) := by decide +kernel
theorem d_L_law_342 : decode b_L_law 342 = .ok (.aload_n 0, 1) := by decide +kernel
theorem d_L_law_343 : decode b_L_law 343 = .ok (.iload 4, 2) := by decide +kernel
theorem d_L_law_345 : decode b_L_law 345 = .ok (.iconst 4, 1) := by decide +kernel
theorem d_L_law_346 : decode b_L_law 346 = .ok (.iadd, 1) := by decide +kernel
theorem d_L_law_347 : decode b_L_law 347 = .ok (.iaload, 1) := by decide +kernel
theorem d_L_law_348 : decode b_L_law 348 = .ok (.i2l, 1) := by decide +kernel
theorem d_L_law_349 : decode b_L_law 349 = .ok (.ldc2_w 58, 3) := by decide +kernel
theorem d_L_law_352 : decode b_L_law 352 = .ok (.land, 1) := by decide +kernel
theorem d_L_law_353 : decode b_L_law 353 = .ok (.lor, 1) := by decide +kernel
theorem d_L_law_354 : decode b_L_law 354 = .ok (.aload_n 3, 1) := by decide +kernel
theorem d_L_law_355 : decode b_L_law 355 = .ok (.invokestatic 64, 3) := by decide +kernel
theorem d_L_law_358 : decode b_L_law 358 = .ok (.istore 5, 2) := by decide +kernel
theorem d_L_law_360 : decode b_L_law 360 = .ok (.aload_n 2, 1) := by decide +kernel
theorem d_L_law_361 : decode b_L_law 361 = .ok (.aload_n 0, 1) := by decide +kernel
theorem d_L_law_362 : decode b_L_law 362 = .ok (.iload 4, 2) := by decide +kernel
theorem d_L_law_364 : decode b_L_law 364 = .ok (.iconst 1, 1) := by decide +kernel
theorem d_L_law_365 : decode b_L_law 365 = .ok (.iadd, 1) := by decide +kernel
theorem d_L_law_366 : decode b_L_law 366 = .ok (.iaload, 1) := by decide +kernel
theorem d_L_law_367 : decode b_L_law 367 = .ok (.aload_n 0, 1) := by decide +kernel
theorem d_L_law_368 : decode b_L_law 368 = .ok (.iload 4, 2) := by decide +kernel
theorem d_L_law_370 : decode b_L_law 370 = .ok (.iconst 2, 1) := by decide +kernel
theorem d_L_law_371 : decode b_L_law 371 = .ok (.iadd, 1) := by decide +kernel
theorem d_L_law_372 : decode b_L_law 372 = .ok (.iaload, 1) := by decide +kernel
theorem d_L_law_373 : decode b_L_law 373 = .ok (.aload_n 0, 1) := by decide +kernel
theorem d_L_law_374 : decode b_L_law 374 = .ok (.iload 4, 2) := by decide +kernel
theorem d_L_law_376 : decode b_L_law 376 = .ok (.iconst 3, 1) := by decide +kernel
theorem d_L_law_377 : decode b_L_law 377 = .ok (.iadd, 1) := by decide +kernel
theorem d_L_law_378 : decode b_L_law 378 = .ok (.iaload, 1) := by decide +kernel
theorem d_L_law_379 : decode b_L_law 379 = .ok (.i2l, 1) := by decide +kernel
theorem d_L_law_380 : decode b_L_law 380 = .ok (.bipush 32, 2) := by decide +kernel
theorem d_L_law_382 : decode b_L_law 382 = .ok (.lshl, 1) := by decide +kernel
theorem d_L_law_383 : decode b_L_law 383 = .ok (.aload_n 0, 1) := by decide +kernel
theorem d_L_law_384 : decode b_L_law 384 = .ok (.iload 4, 2) := by decide +kernel
theorem d_L_law_386 : decode b_L_law 386 = .ok (.iconst 4, 1) := by decide +kernel
theorem d_L_law_387 : decode b_L_law 387 = .ok (.iadd, 1) := by decide +kernel
theorem d_L_law_388 : decode b_L_law 388 = .ok (.iaload, 1) := by decide +kernel
theorem d_L_law_389 : decode b_L_law 389 = .ok (.i2l, 1) := by decide +kernel
theorem d_L_law_390 : decode b_L_law 390 = .ok (.ldc2_w 58, 3) := by decide +kernel
theorem d_L_law_393 : decode b_L_law 393 = .ok (.land, 1) := by decide +kernel
theorem d_L_law_394 : decode b_L_law 394 = .ok (.lor, 1) := by decide +kernel
theorem d_L_law_395 : decode b_L_law 395 = .ok (.invokevirtual 66, 3) := by decide +kernel
theorem d_L_law_398 : decode b_L_law 398 = .ok (.lstore 6, 2) := by decide +kernel
theorem d_L_law_400 : decode b_L_law 400 = .ok (.aload_n 2, 1) := by decide +kernel
theorem d_L_law_401 : decode b_L_law 401 = .ok (.invokevirtual 51, 3) := by decide +kernel
theorem d_L_law_404 : decode b_L_law 404 = .ok (.iload 5, 2) := by decide +kernel
theorem d_L_law_406 : decode b_L_law 406 = .ok (.if_icmp .eq 5, 3) := by decide +kernel
theorem d_L_law_409 : decode b_L_law 409 = .ok (.iconst 0, 1) := by decide +kernel
theorem d_L_law_410 : decode b_L_law 410 = .ok (.ireturn, 1) := by decide +kernel
theorem d_L_law_411 : decode b_L_law 411 = .ok (.iload 5, 2) := by decide +kernel
theorem d_L_law_413 : decode b_L_law 413 = .ok (.ifCond .ne 14, 3) := by decide +kernel
theorem d_L_law_416 : decode b_L_law 416 = .ok (.aload_n 3, 1) := by decide +kernel
theorem d_L_law_417 : decode b_L_law 417 = .ok (.iconst 0, 1) := by decide +kernel
theorem d_L_law_418 : decode b_L_law 418 = .ok (.laload, 1) := by decide +kernel
theorem d_L_law_419 : decode b_L_law 419 = .ok (.lload 6, 2) := by decide +kernel
theorem d_L_law_421 : decode b_L_law 421 = .ok (.lcmp, 1) := by decide +kernel
theorem d_L_law_422 : decode b_L_law 422 = .ok (.ifCond .eq 5, 3) := by decide +kernel
theorem d_L_law_425 : decode b_L_law 425 = .ok (.iconst 0, 1) := by decide +kernel
theorem d_L_law_426 : decode b_L_law 426 = .ok (.ireturn, 1) := by decide +kernel
theorem d_L_law_427 : decode b_L_law 427 = .ok (.goto 362, 3) := by decide +kernel
theorem d_L_law_430 : decode b_L_law 430 = .ok (.aload_n 1, 1) := by decide +kernel
theorem d_L_law_431 : decode b_L_law 431 = .ok (.aload_n 0, 1) := by decide +kernel
theorem d_L_law_432 : decode b_L_law 432 = .ok (.iload 4, 2) := by decide +kernel
theorem d_L_law_434 : decode b_L_law 434 = .ok (.iconst 1, 1) := by decide +kernel
theorem d_L_law_435 : decode b_L_law 435 = .ok (.iadd, 1) := by decide +kernel
theorem d_L_law_436 : decode b_L_law 436 = .ok (.iaload, 1) := by decide +kernel
theorem d_L_law_437 : decode b_L_law 437 = .ok (.aload_n 0, 1) := by decide +kernel
theorem d_L_law_438 : decode b_L_law 438 = .ok (.iload 4, 2) := by decide +kernel
theorem d_L_law_440 : decode b_L_law 440 = .ok (.iconst 2, 1) := by decide +kernel
theorem d_L_law_441 : decode b_L_law 441 = .ok (.iadd, 1) := by decide +kernel
theorem d_L_law_442 : decode b_L_law 442 = .ok (.iaload, 1) := by decide +kernel
theorem d_L_law_443 : decode b_L_law 443 = .ok (.aload_n 0, 1) := by decide +kernel
theorem d_L_law_444 : decode b_L_law 444 = .ok (.iload 4, 2) := by decide +kernel
theorem d_L_law_446 : decode b_L_law 446 = .ok (.iconst 3, 1) := by decide +kernel
theorem d_L_law_447 : decode b_L_law 447 = .ok (.iadd, 1) := by decide +kernel
theorem d_L_law_448 : decode b_L_law 448 = .ok (.iaload, 1) := by decide +kernel
theorem d_L_law_449 : decode b_L_law 449 = .ok (.i2l, 1) := by decide +kernel
theorem d_L_law_450 : decode b_L_law 450 = .ok (.bipush 32, 2) := by decide +kernel
theorem d_L_law_452 : decode b_L_law 452 = .ok (.lshl, 1) := by decide +kernel
theorem d_L_law_453 : decode b_L_law 453 = .ok (.aload_n 0, 1) := by decide +kernel
theorem d_L_law_454 : decode b_L_law 454 = .ok (.iload 4, 2) := by decide +kernel
theorem d_L_law_456 : decode b_L_law 456 = .ok (.iconst 4, 1) := by decide +kernel
theorem d_L_law_457 : decode b_L_law 457 = .ok (.iadd, 1) := by decide +kernel
theorem d_L_law_458 : decode b_L_law 458 = .ok (.iaload, 1) := by decide +kernel
theorem d_L_law_459 : decode b_L_law 459 = .ok (.i2l, 1) := by decide +kernel
theorem d_L_law_460 : decode b_L_law 460 = .ok (.ldc2_w 58, 3) := by decide +kernel
theorem d_L_law_463 : decode b_L_law 463 = .ok (.land, 1) := by decide +kernel
theorem d_L_law_464 : decode b_L_law 464 = .ok (.lor, 1) := by decide +kernel
theorem d_L_law_465 : decode b_L_law 465 = .ok (.aload_n 3, 1) := by decide +kernel
theorem d_L_law_466 : decode b_L_law 466 = .ok (.invokestatic 67, 3) := by decide +kernel
theorem d_L_law_469 : decode b_L_law 469 = .ok (.istore 5, 2) := by decide +kernel
theorem d_L_law_471 : decode b_L_law 471 = .ok (.aload_n 2, 1) := by decide +kernel
theorem d_L_law_472 : decode b_L_law 472 = .ok (.aload_n 0, 1) := by decide +kernel
theorem d_L_law_473 : decode b_L_law 473 = .ok (.iload 4, 2) := by decide +kernel
theorem d_L_law_475 : decode b_L_law 475 = .ok (.iconst 1, 1) := by decide +kernel
theorem d_L_law_476 : decode b_L_law 476 = .ok (.iadd, 1) := by decide +kernel
theorem d_L_law_477 : decode b_L_law 477 = .ok (.iaload, 1) := by decide +kernel
theorem d_L_law_478 : decode b_L_law 478 = .ok (.aload_n 0, 1) := by decide +kernel
theorem d_L_law_479 : decode b_L_law 479 = .ok (.iload 4, 2) := by decide +kernel
theorem d_L_law_481 : decode b_L_law 481 = .ok (.iconst 2, 1) := by decide +kernel
theorem d_L_law_482 : decode b_L_law 482 = .ok (.iadd, 1) := by decide +kernel
theorem d_L_law_483 : decode b_L_law 483 = .ok (.iaload, 1) := by decide +kernel
theorem d_L_law_484 : decode b_L_law 484 = .ok (.aload_n 0, 1) := by decide +kernel
theorem d_L_law_485 : decode b_L_law 485 = .ok (.iload 4, 2) := by decide +kernel
theorem d_L_law_487 : decode b_L_law 487 = .ok (.iconst 3, 1) := by decide +kernel
theorem d_L_law_488 : decode b_L_law 488 = .ok (.iadd, 1) := by decide +kernel
theorem d_L_law_489 : decode b_L_law 489 = .ok (.iaload, 1) := by decide +kernel
theorem d_L_law_490 : decode b_L_law 490 = .ok (.i2l, 1) := by decide +kernel
theorem d_L_law_491 : decode b_L_law 491 = .ok (.bipush 32, 2) := by decide +kernel
theorem d_L_law_493 : decode b_L_law 493 = .ok (.lshl, 1) := by decide +kernel
theorem d_L_law_494 : decode b_L_law 494 = .ok (.aload_n 0, 1) := by decide +kernel
theorem d_L_law_495 : decode b_L_law 495 = .ok (.iload 4, 2) := by decide +kernel
theorem d_L_law_497 : decode b_L_law 497 = .ok (.iconst 4, 1) := by decide +kernel
theorem d_L_law_498 : decode b_L_law 498 = .ok (.iadd, 1) := by decide +kernel
theorem d_L_law_499 : decode b_L_law 499 = .ok (.iaload, 1) := by decide +kernel
theorem d_L_law_500 : decode b_L_law 500 = .ok (.i2l, 1) := by decide +kernel
theorem d_L_law_501 : decode b_L_law 501 = .ok (.ldc2_w 58, 3) := by decide +kernel
theorem d_L_law_504 : decode b_L_law 504 = .ok (.land, 1) := by decide +kernel
theorem d_L_law_505 : decode b_L_law 505 = .ok (.lor, 1) := by decide +kernel
theorem d_L_law_506 : decode b_L_law 506 = .ok (.invokevirtual 69, 3) := by decide +kernel
theorem d_L_law_509 : decode b_L_law 509 = .ok (.istore 6, 2) := by decide +kernel
theorem d_L_law_511 : decode b_L_law 511 = .ok (.aload_n 2, 1) := by decide +kernel
theorem d_L_law_512 : decode b_L_law 512 = .ok (.invokevirtual 51, 3) := by decide +kernel
theorem d_L_law_515 : decode b_L_law 515 = .ok (.iload 5, 2) := by decide +kernel
theorem d_L_law_517 : decode b_L_law 517 = .ok (.if_icmp .eq 5, 3) := by decide +kernel
theorem d_L_law_520 : decode b_L_law 520 = .ok (.iconst 0, 1) := by decide +kernel
theorem d_L_law_521 : decode b_L_law 521 = .ok (.ireturn, 1) := by decide +kernel
theorem d_L_law_522 : decode b_L_law 522 = .ok (.iload 5, 2) := by decide +kernel
theorem d_L_law_524 : decode b_L_law 524 = .ok (.ifCond .ne 22, 3) := by decide +kernel
theorem d_L_law_527 : decode b_L_law 527 = .ok (.aload_n 3, 1) := by decide +kernel
theorem d_L_law_528 : decode b_L_law 528 = .ok (.iconst 0, 1) := by decide +kernel
theorem d_L_law_529 : decode b_L_law 529 = .ok (.laload, 1) := by decide +kernel
theorem d_L_law_530 : decode b_L_law 530 = .ok (.iload 6, 2) := by decide +kernel
theorem d_L_law_532 : decode b_L_law 532 = .ok (.ifCond .eq 7, 3) := by decide +kernel
theorem d_L_law_535 : decode b_L_law 535 = .ok (.lconst 1, 1) := by decide +kernel
theorem d_L_law_536 : decode b_L_law 536 = .ok (.goto 4, 3) := by decide +kernel
theorem d_L_law_539 : decode b_L_law 539 = .ok (.lconst 0, 1) := by decide +kernel
theorem d_L_law_540 : decode b_L_law 540 = .ok (.lcmp, 1) := by decide +kernel
theorem d_L_law_541 : decode b_L_law 541 = .ok (.ifCond .eq 5, 3) := by decide +kernel
theorem d_L_law_544 : decode b_L_law 544 = .ok (.iconst 0, 1) := by decide +kernel
theorem d_L_law_545 : decode b_L_law 545 = .ok (.ireturn, 1) := by decide +kernel
theorem d_L_law_546 : decode b_L_law 546 = .ok (.goto 243, 3) := by decide +kernel
theorem d_L_law_549 : decode b_L_law 549 = .ok (.aload_n 1, 1) := by decide +kernel
theorem d_L_law_550 : decode b_L_law 550 = .ok (.aload_n 0, 1) := by decide +kernel
theorem d_L_law_551 : decode b_L_law 551 = .ok (.iload 4, 2) := by decide +kernel
theorem d_L_law_553 : decode b_L_law 553 = .ok (.iconst 1, 1) := by decide +kernel
theorem d_L_law_554 : decode b_L_law 554 = .ok (.iadd, 1) := by decide +kernel
theorem d_L_law_555 : decode b_L_law 555 = .ok (.iaload, 1) := by decide +kernel
theorem d_L_law_556 : decode b_L_law 556 = .ok (.aload_n 0, 1) := by decide +kernel
theorem d_L_law_557 : decode b_L_law 557 = .ok (.iload 4, 2) := by decide +kernel
theorem d_L_law_559 : decode b_L_law 559 = .ok (.iconst 2, 1) := by decide +kernel
theorem d_L_law_560 : decode b_L_law 560 = .ok (.iadd, 1) := by decide +kernel
theorem d_L_law_561 : decode b_L_law 561 = .ok (.iaload, 1) := by decide +kernel
theorem d_L_law_562 : decode b_L_law 562 = .ok (.aload_n 3, 1) := by decide +kernel
theorem d_L_law_563 : decode b_L_law 563 = .ok (.invokestatic 70, 3) := by decide +kernel
theorem d_L_law_566 : decode b_L_law 566 = .ok (.istore 5, 2) := by decide +kernel
theorem d_L_law_568 : decode b_L_law 568 = .ok (.aload_n 2, 1) := by decide +kernel
theorem d_L_law_569 : decode b_L_law 569 = .ok (.aload_n 0, 1) := by decide +kernel
theorem d_L_law_570 : decode b_L_law 570 = .ok (.iload 4, 2) := by decide +kernel
theorem d_L_law_572 : decode b_L_law 572 = .ok (.iconst 1, 1) := by decide +kernel
theorem d_L_law_573 : decode b_L_law 573 = .ok (.iadd, 1) := by decide +kernel
theorem d_L_law_574 : decode b_L_law 574 = .ok (.iaload, 1) := by decide +kernel
theorem d_L_law_575 : decode b_L_law 575 = .ok (.aload_n 0, 1) := by decide +kernel
theorem d_L_law_576 : decode b_L_law 576 = .ok (.iload 4, 2) := by decide +kernel
theorem d_L_law_578 : decode b_L_law 578 = .ok (.iconst 2, 1) := by decide +kernel
theorem d_L_law_579 : decode b_L_law 579 = .ok (.iadd, 1) := by decide +kernel
theorem d_L_law_580 : decode b_L_law 580 = .ok (.iaload, 1) := by decide +kernel
theorem d_L_law_581 : decode b_L_law 581 = .ok (.invokevirtual 73, 3) := by decide +kernel
theorem d_L_law_584 : decode b_L_law 584 = .ok (.lstore 6, 2) := by decide +kernel
theorem d_L_law_586 : decode b_L_law 586 = .ok (.aload_n 2, 1) := by decide +kernel
theorem d_L_law_587 : decode b_L_law 587 = .ok (.invokevirtual 51, 3) := by decide +kernel
theorem d_L_law_590 : decode b_L_law 590 = .ok (.iload 5, 2) := by decide +kernel
theorem d_L_law_592 : decode b_L_law 592 = .ok (.if_icmp .eq 5, 3) := by decide +kernel
theorem d_L_law_595 : decode b_L_law 595 = .ok (.iconst 0, 1) := by decide +kernel
theorem d_L_law_596 : decode b_L_law 596 = .ok (.ireturn, 1) := by decide +kernel
theorem d_L_law_597 : decode b_L_law 597 = .ok (.iload 5, 2) := by decide +kernel
theorem d_L_law_599 : decode b_L_law 599 = .ok (.ifCond .ne 14, 3) := by decide +kernel
theorem d_L_law_602 : decode b_L_law 602 = .ok (.aload_n 3, 1) := by decide +kernel
theorem d_L_law_603 : decode b_L_law 603 = .ok (.iconst 0, 1) := by decide +kernel
theorem d_L_law_604 : decode b_L_law 604 = .ok (.laload, 1) := by decide +kernel
theorem d_L_law_605 : decode b_L_law 605 = .ok (.lload 6, 2) := by decide +kernel
theorem d_L_law_607 : decode b_L_law 607 = .ok (.lcmp, 1) := by decide +kernel
theorem d_L_law_608 : decode b_L_law 608 = .ok (.ifCond .eq 5, 3) := by decide +kernel
theorem d_L_law_611 : decode b_L_law 611 = .ok (.iconst 0, 1) := by decide +kernel
theorem d_L_law_612 : decode b_L_law 612 = .ok (.ireturn, 1) := by decide +kernel
theorem d_L_law_613 : decode b_L_law 613 = .ok (.goto 176, 3) := by decide +kernel
theorem d_L_law_616 : decode b_L_law 616 = .ok (.aload_n 1, 1) := by decide +kernel
theorem d_L_law_617 : decode b_L_law 617 = .ok (.invokevirtual 74, 3) := by decide +kernel
theorem d_L_law_620 : decode b_L_law 620 = .ok (.aload_n 2, 1) := by decide +kernel
theorem d_L_law_621 : decode b_L_law 621 = .ok (.invokevirtual 77, 3) := by decide +kernel
theorem d_L_law_624 : decode b_L_law 624 = .ok (.if_icmp .eq 165, 3) := by decide +kernel
theorem d_L_law_627 : decode b_L_law 627 = .ok (.iconst 0, 1) := by decide +kernel
theorem d_L_law_628 : decode b_L_law 628 = .ok (.ireturn, 1) := by decide +kernel
theorem d_L_law_629 : decode b_L_law 629 = .ok (.aload_n 1, 1) := by decide +kernel
theorem d_L_law_630 : decode b_L_law 630 = .ok (.aload_n 0, 1) := by decide +kernel
theorem d_L_law_631 : decode b_L_law 631 = .ok (.iload 4, 2) := by decide +kernel
theorem d_L_law_633 : decode b_L_law 633 = .ok (.iconst 1, 1) := by decide +kernel
theorem d_L_law_634 : decode b_L_law 634 = .ok (.iadd, 1) := by decide +kernel
theorem d_L_law_635 : decode b_L_law 635 = .ok (.iaload, 1) := by decide +kernel
theorem d_L_law_636 : decode b_L_law 636 = .ok (.aload_n 0, 1) := by decide +kernel
theorem d_L_law_637 : decode b_L_law 637 = .ok (.iload 4, 2) := by decide +kernel
theorem d_L_law_639 : decode b_L_law 639 = .ok (.iconst 2, 1) := by decide +kernel
theorem d_L_law_640 : decode b_L_law 640 = .ok (.iadd, 1) := by decide +kernel
theorem d_L_law_641 : decode b_L_law 641 = .ok (.iaload, 1) := by decide +kernel
theorem d_L_law_642 : decode b_L_law 642 = .ok (.aload_n 3, 1) := by decide +kernel
theorem d_L_law_643 : decode b_L_law 643 = .ok (.invokestatic 78, 3) := by decide +kernel
theorem d_L_law_646 : decode b_L_law 646 = .ok (.istore 5, 2) := by decide +kernel
theorem d_L_law_648 : decode b_L_law 648 = .ok (.aload_n 2, 1) := by decide +kernel
theorem d_L_law_649 : decode b_L_law 649 = .ok (.aload_n 0, 1) := by decide +kernel
theorem d_L_law_650 : decode b_L_law 650 = .ok (.iload 4, 2) := by decide +kernel
theorem d_L_law_652 : decode b_L_law 652 = .ok (.iconst 1, 1) := by decide +kernel
theorem d_L_law_653 : decode b_L_law 653 = .ok (.iadd, 1) := by decide +kernel
theorem d_L_law_654 : decode b_L_law 654 = .ok (.iaload, 1) := by decide +kernel
theorem d_L_law_655 : decode b_L_law 655 = .ok (.aload_n 0, 1) := by decide +kernel
theorem d_L_law_656 : decode b_L_law 656 = .ok (.iload 4, 2) := by decide +kernel
theorem d_L_law_658 : decode b_L_law 658 = .ok (.iconst 2, 1) := by decide +kernel
theorem d_L_law_659 : decode b_L_law 659 = .ok (.iadd, 1) := by decide +kernel
theorem d_L_law_660 : decode b_L_law 660 = .ok (.iaload, 1) := by decide +kernel
theorem d_L_law_661 : decode b_L_law 661 = .ok (.invokevirtual 80, 3) := by decide +kernel
theorem d_L_law_664 : decode b_L_law 664 = .ok (.lstore 6, 2) := by decide +kernel
theorem d_L_law_666 : decode b_L_law 666 = .ok (.aload_n 2, 1) := by decide +kernel
theorem d_L_law_667 : decode b_L_law 667 = .ok (.invokevirtual 51, 3) := by decide +kernel
theorem d_L_law_670 : decode b_L_law 670 = .ok (.iload 5, 2) := by decide +kernel
theorem d_L_law_672 : decode b_L_law 672 = .ok (.if_icmp .eq 5, 3) := by decide +kernel
theorem d_L_law_675 : decode b_L_law 675 = .ok (.iconst 0, 1) := by decide +kernel
theorem d_L_law_676 : decode b_L_law 676 = .ok (.ireturn, 1) := by decide +kernel
theorem d_L_law_677 : decode b_L_law 677 = .ok (.iload 5, 2) := by decide +kernel
theorem d_L_law_679 : decode b_L_law 679 = .ok (.ifCond .ne 14, 3) := by decide +kernel
theorem d_L_law_682 : decode b_L_law 682 = .ok (.aload_n 3, 1) := by decide +kernel
theorem d_L_law_683 : decode b_L_law 683 = .ok (.iconst 0, 1) := by decide +kernel
theorem d_L_law_684 : decode b_L_law 684 = .ok (.laload, 1) := by decide +kernel
theorem d_L_law_685 : decode b_L_law 685 = .ok (.lload 6, 2) := by decide +kernel
theorem d_L_law_687 : decode b_L_law 687 = .ok (.lcmp, 1) := by decide +kernel
theorem d_L_law_688 : decode b_L_law 688 = .ok (.ifCond .eq 5, 3) := by decide +kernel
theorem d_L_law_691 : decode b_L_law 691 = .ok (.iconst 0, 1) := by decide +kernel
theorem d_L_law_692 : decode b_L_law 692 = .ok (.ireturn, 1) := by decide +kernel
theorem d_L_law_693 : decode b_L_law 693 = .ok (.goto 96, 3) := by decide +kernel
theorem d_L_law_696 : decode b_L_law 696 = .ok (.aload_n 1, 1) := by decide +kernel
theorem d_L_law_697 : decode b_L_law 697 = .ok (.aload_n 0, 1) := by decide +kernel
theorem d_L_law_698 : decode b_L_law 698 = .ok (.iload 4, 2) := by decide +kernel
theorem d_L_law_700 : decode b_L_law 700 = .ok (.iconst 1, 1) := by decide +kernel
theorem d_L_law_701 : decode b_L_law 701 = .ok (.iadd, 1) := by decide +kernel
theorem d_L_law_702 : decode b_L_law 702 = .ok (.iaload, 1) := by decide +kernel
theorem d_L_law_703 : decode b_L_law 703 = .ok (.aload_n 0, 1) := by decide +kernel
theorem d_L_law_704 : decode b_L_law 704 = .ok (.iload 4, 2) := by decide +kernel
theorem d_L_law_706 : decode b_L_law 706 = .ok (.iconst 2, 1) := by decide +kernel
theorem d_L_law_707 : decode b_L_law 707 = .ok (.iadd, 1) := by decide +kernel
theorem d_L_law_708 : decode b_L_law 708 = .ok (.iaload, 1) := by decide +kernel
theorem d_L_law_709 : decode b_L_law 709 = .ok (.aload_n 3, 1) := by decide +kernel
theorem d_L_law_710 : decode b_L_law 710 = .ok (.invokestatic 81, 3) := by decide +kernel
theorem d_L_law_713 : decode b_L_law 713 = .ok (.istore 5, 2) := by decide +kernel
theorem d_L_law_715 : decode b_L_law 715 = .ok (.aload_n 2, 1) := by decide +kernel
theorem d_L_law_716 : decode b_L_law 716 = .ok (.aload_n 0, 1) := by decide +kernel
theorem d_L_law_717 : decode b_L_law 717 = .ok (.iload 4, 2) := by decide +kernel
theorem d_L_law_719 : decode b_L_law 719 = .ok (.iconst 1, 1) := by decide +kernel
theorem d_L_law_720 : decode b_L_law 720 = .ok (.iadd, 1) := by decide +kernel
theorem d_L_law_721 : decode b_L_law 721 = .ok (.iaload, 1) := by decide +kernel
theorem d_L_law_722 : decode b_L_law 722 = .ok (.aload_n 0, 1) := by decide +kernel
theorem d_L_law_723 : decode b_L_law 723 = .ok (.iload 4, 2) := by decide +kernel
theorem d_L_law_725 : decode b_L_law 725 = .ok (.iconst 2, 1) := by decide +kernel
theorem d_L_law_726 : decode b_L_law 726 = .ok (.iadd, 1) := by decide +kernel
theorem d_L_law_727 : decode b_L_law 727 = .ok (.iaload, 1) := by decide +kernel
theorem d_L_law_728 : decode b_L_law 728 = .ok (.invokevirtual 83, 3) := by decide +kernel
theorem d_L_law_731 : decode b_L_law 731 = .ok (.lstore 6, 2) := by decide +kernel
theorem d_L_law_733 : decode b_L_law 733 = .ok (.aload_n 2, 1) := by decide +kernel
theorem d_L_law_734 : decode b_L_law 734 = .ok (.invokevirtual 51, 3) := by decide +kernel
theorem d_L_law_737 : decode b_L_law 737 = .ok (.iload 5, 2) := by decide +kernel
theorem d_L_law_739 : decode b_L_law 739 = .ok (.if_icmp .eq 5, 3) := by decide +kernel
theorem d_L_law_742 : decode b_L_law 742 = .ok (.iconst 0, 1) := by decide +kernel
theorem d_L_law_743 : decode b_L_law 743 = .ok (.ireturn, 1) := by decide +kernel
theorem d_L_law_744 : decode b_L_law 744 = .ok (.iload 5, 2) := by decide +kernel
theorem d_L_law_746 : decode b_L_law 746 = .ok (.ifCond .ne 14, 3) := by decide +kernel
theorem d_L_law_749 : decode b_L_law 749 = .ok (.aload_n 3, 1) := by decide +kernel
theorem d_L_law_750 : decode b_L_law 750 = .ok (.iconst 0, 1) := by decide +kernel
theorem d_L_law_751 : decode b_L_law 751 = .ok (.laload, 1) := by decide +kernel
theorem d_L_law_752 : decode b_L_law 752 = .ok (.lload 6, 2) := by decide +kernel
theorem d_L_law_754 : decode b_L_law 754 = .ok (.lcmp, 1) := by decide +kernel
theorem d_L_law_755 : decode b_L_law 755 = .ok (.ifCond .eq 5, 3) := by decide +kernel
theorem d_L_law_758 : decode b_L_law 758 = .ok (.iconst 0, 1) := by decide +kernel
theorem d_L_law_759 : decode b_L_law 759 = .ok (.ireturn, 1) := by decide +kernel
theorem d_L_law_760 : decode b_L_law 760 = .ok (.goto 29, 3) := by decide +kernel
theorem d_L_law_763 : decode b_L_law 763 = .ok (.aload_n 1, 1) := by decide +kernel
theorem d_L_law_764 : decode b_L_law 764 = .ok (.invokevirtual 84, 3) := by decide +kernel
theorem d_L_law_767 : decode b_L_law 767 = .ok (.aload_n 2, 1) := by decide +kernel
theorem d_L_law_768 : decode b_L_law 768 = .ok (.invokevirtual 87, 3) := by decide +kernel
theorem d_L_law_771 : decode b_L_law 771 = .ok (.if_icmp .eq 18, 3) := by decide +kernel
theorem d_L_law_774 : decode b_L_law 774 = .ok (.iconst 0, 1) := by decide +kernel
theorem d_L_law_775 : decode b_L_law 775 = .ok (.ireturn, 1) := by decide +kernel
theorem d_L_law_776 : decode b_L_law 776 = .ok (.aload_n 1, 1) := by decide +kernel
theorem d_L_law_777 : decode b_L_law 777 = .ok (.invokevirtual 88, 3) := by decide +kernel
theorem d_L_law_780 : decode b_L_law 780 = .ok (.aload_n 2, 1) := by decide +kernel
theorem d_L_law_781 : decode b_L_law 781 = .ok (.invokevirtual 91, 3) := by decide +kernel
theorem d_L_law_784 : decode b_L_law 784 = .ok (.if_icmp .eq 5, 3) := by decide +kernel
theorem d_L_law_787 : decode b_L_law 787 = .ok (.iconst 0, 1) := by decide +kernel
theorem d_L_law_788 : decode b_L_law 788 = .ok (.ireturn, 1) := by decide +kernel
theorem d_L_law_789 : decode b_L_law 789 = .ok (.iinc 4 5, 3) := by decide +kernel
theorem d_L_law_792 : decode b_L_law 792 = .ok (.goto (-769), 3) := by decide +kernel
theorem d_L_law_795 : decode b_L_law 795 = .ok (.iconst 1, 1) := by decide +kernel
theorem d_L_law_796 : decode b_L_law 796 = .ok (.ireturn, 1) := by decide +kernel
end
section
/-! rows of my own over the kit's: an index that is a natural; a call that changes nothing; the heap's words that a throw needs -/
section XA
variable {p : Program} {l : Launch} {e : Env} {R : Room} {s : State} {m : MethodId} {args : Array Value} {below : List Frame} {meth : Method} {c : Code} {H : Heap} {locs : List Loc} {cells slots : Nat} {Q : State → Prop}
variable {cc : ByteArray} {pc : Nat} {ls : Array Slot} {rest : List Value} {D : va_G} {cl : List vw_C} {A : Nat → Prop} {a : Nat} {tys : List (ClassId × FieldType)} {ws : va_W} {H0 : Heap}
theorem xa_iaload (hexec : p.tables.exec = Jvm.exec) (hb : c.code = cc) (hK : va_K D cl tys s) (hP : va_P D cl ws H) (q0 t0 : Nat) {cA : ClassId} {n : Nat} {f : Nat → Int32} (ha : ws[q0]? = some (a, .inl (cA, n, .inl f))) (ht : tys[t0]? = some (cA, .int)) {j : Nat} (hj : j < n) (hn : n < 2 ^ 31) (hdg : decode cc pc = .ok (.iaload, 1))
    (kk : W p l e R s m args below meth c H locs cells slots Q (F0 m (pc + 1) ls (.int (f j) :: rest))) : W p l e R s m args below meth c H locs cells slots Q (F0 m pc ls (.int (nI j) :: .ref a :: rest)) :=
  va_iald hexec hb hK hP q0 t0 ha ht (vp_in_nI hj hn) hdg (by rw [nI_clamp (Nat.lt_trans hj hn)]; exact kk)
theorem xa_laload (hexec : p.tables.exec = Jvm.exec) (hb : c.code = cc) (hK : va_K D cl tys s) (hP : va_P D cl ws H) (q0 t0 : Nat) {cA : ClassId} {n : Nat} {f : Nat → Int64} (ha : ws[q0]? = some (a, .inl (cA, n, .inr (.inl f)))) (ht : tys[t0]? = some (cA, .long)) {j : Nat} (hj : j < n) (hn : n < 2 ^ 31) (hdg : decode cc pc = .ok (.laload, 1))
    (kk : W p l e R s m args below meth c H locs cells slots Q (F0 m (pc + 1) ls (.long (f j) :: rest))) : W p l e R s m args below meth c H locs cells slots Q (F0 m pc ls (.int (nI j) :: .ref a :: rest)) :=
  va_lald hexec hb hK hP q0 t0 ha ht (vp_in_nI hj hn) hdg (by rw [nI_clamp (Nat.lt_trans hj hn)]; exact kk)
theorem xa_iastore (hexec : p.tables.exec = Jvm.exec) (hb : c.code = cc) (hK : va_K D cl tys s) (hP : va_P D cl ws H) (hD : va_D A ws) (hS : va_S A H0 H locs) (q0 t0 : Nat) {cA : ClassId} {n : Nat} {f : Nat → Int32} (ha : ws[q0]? = some (a, .inl (cA, n, .inl f))) (ht : tys[t0]? = some (cA, .int)) {j : Nat} {x : Int32} (hj : j < n) (hn : n < 2 ^ 31) (hdg : decode cc pc = .ok (.iastore, 1))
    (kk : ∀ (H1 : Heap) (locs1 : List Loc), va_P D cl (ws.set q0 (a, .inl (cA, n, .inl (upd f j x)))) H1 → va_D A (ws.set q0 (a, .inl (cA, n, .inl (upd f j x)))) → va_S A H0 H1 locs1 → W p l e R s m args below meth c H1 locs1 cells slots Q (F0 m (pc + 1) ls rest)) : W p l e R s m args below meth c H locs cells slots Q (F0 m pc ls (.int x :: .int (nI j) :: .ref a :: rest)) := by
  refine va_iast hexec hb hK hP hD hS q0 t0 ha ht (vp_in_nI hj hn) hdg (fun H1 l1 h1 h2 h3 => ?_)
  rw [nI_clamp (Nat.lt_trans hj hn)] at h1 h2
  exact kk H1 l1 h1 h2 h3
theorem xa_lastore (hexec : p.tables.exec = Jvm.exec) (hb : c.code = cc) (hK : va_K D cl tys s) (hP : va_P D cl ws H) (hD : va_D A ws) (hS : va_S A H0 H locs) (q0 t0 : Nat) {cA : ClassId} {n : Nat} {f : Nat → Int64} (ha : ws[q0]? = some (a, .inl (cA, n, .inr (.inl f)))) (ht : tys[t0]? = some (cA, .long)) {j : Nat} {x : Int64} (hj : j < n) (hn : n < 2 ^ 31) (hdg : decode cc pc = .ok (.lastore, 1))
    (kk : ∀ (H1 : Heap) (locs1 : List Loc), va_P D cl (ws.set q0 (a, .inl (cA, n, .inr (.inl (vp_updL f j x))))) H1 → va_D A (ws.set q0 (a, .inl (cA, n, .inr (.inl (vp_updL f j x))))) → va_S A H0 H1 locs1 → W p l e R s m args below meth c H1 locs1 cells slots Q (F0 m (pc + 1) ls rest)) : W p l e R s m args below meth c H locs cells slots Q (F0 m pc ls (.long x :: .int (nI j) :: .ref a :: rest)) := by
  refine va_last hexec hb hK hP hD hS q0 t0 ha ht (vp_in_nI hj hn) hdg (fun H1 l1 h1 h2 h3 => ?_)
  rw [nI_clamp (Nat.lt_trans hj hn)] at h1 h2
  exact kk H1 l1 h1 h2 h3
/-- a method that changes nothing and answers v -/
def ro_Q (v : Option Value) : Array Value → State → Outcome → State → Prop := fun _ st o t => o = .returned v ∧ t.heap = st.heap
theorem ro_call {g : JFrame} {v : Option Value} {av : Array Value} {rest : List Value} (hr : va_Run p l e R s m args below meth c H locs cells slots 0 0 g rest (ro_Q v av) (fun _ => False)) (kk : W p l e R s m args below meth c H locs cells slots Q { g with pc := g.pc + 3, stack := v.toList ++ rest }) : W p l e R s m args below meth c H locs cells slots Q g := by
  intro T hT X
  obtain ⟨v', st₀, t, T', L, h0, X', hL, e1, e2, ⟨hv, hh⟩, st⟩ := hr T hT X
  cases hv
  obtain ⟨t2, a1, b1⟩ := kk T' (by rw [e1, hh, h0]) (Stand.forget X' (fun q h => (hL q h).elim))
  exact ⟨t2, st t2 a1, b1⟩
end XA
section XC
/-- the words of a throw that lie in the heap: where Throwable keeps its two statics -/
def xc_w : List Cond := [.laysStatic Bundle.tN "UNASSIGNED_STACK" Bundle.steD, .laysStatic Bundle.tN "SUPPRESSED_SENTINEL" Bundle.listD, .isRef (.static Bundle.tN "UNASSIGNED_STACK" Bundle.steD), .isRef (.static Bundle.tN "SUPPRESSED_SENTINEL" Bundle.listD)]
/-- .. and those that lie in the tables but may be asked only where they are known -/
def xc_f : List Cond := [.castable "java/lang/IllegalArgumentException" "java/lang/IllegalArgumentException", .castable "java/lang/IllegalStateException" "java/lang/IllegalStateException", .declares ⟨"java/lang/RuntimeException", "<init>", "(Ljava/lang/String;)V"⟩, .declares ⟨"java/lang/Exception", "<init>", "(Ljava/lang/String;)V"⟩, .declares ⟨"java/lang/Throwable", "<init>", "(Ljava/lang/String;)V"⟩]
def xc_ok (own : String) (ks : List (Nat × String)) (U : State) : Prop := (∀ w ∈ xc_w, w.before #[] U = true) ∧ (∀ q ∈ ks, ∃ sa, vk_R own q.1 q.2 sa U) ∧ (∀ w ∈ xc_f, w.before #[] U = true) ∧ va_Nc "java/lang/IllegalStateException" "java/lang/IllegalArgumentException" U
theorem xc_lays {s U : State} {C n d : String} (hal : s.vm.Alike U.vm) (hh : ∀ q : Nat, q < s.heap.size → U.heap[q]? = s.heap[q]?) (h : (Cond.laysStatic C n d).before #[] s = true) : (Cond.laysStatic C n d).before #[] U = true := by
  obtain ⟨c, k, i, f, a, cell, hc, hi, hst, ha, hcell, hs, hcls, hlt, hty⟩ := Cond.laysStatic_spec h
  obtain ⟨k', hi', he⟩ := State.fieldFound?_setVm hal hi
  have hi2 : U.fieldFound? C n d = some (c, k', i, f) := hi'
  show (Cond.laysStatic C n d).holds #[] U none U [] = true
  exact Cond.laysStatic_of (by rw [hal.findClass]; exact hc) hi2 hst (by rw [he]; exact ha) (by rw [hh a (Array.getElem?_eq_some_iff.mp hcell).1]; exact hcell) hs hcls hlt (by rw [he]; exact hty)
theorem xc_isRef {s U : State} {C n d : String} (hal : s.vm.Alike U.vm) (hh : ∀ q : Nat, q < s.heap.size → U.heap[q]? = s.heap[q]?) (hl : (Cond.laysStatic C n d).before #[] s = true) (h : (Cond.isRef (.static C n d)).before #[] s = true) : (Cond.isRef (.static C n d)).before #[] U = true := by
  obtain ⟨c, k, i, f, a, cell, hc, hi, hst, ha, hcell, hs, hcls, hlt, hty⟩ := Cond.laysStatic_spec hl
  obtain ⟨k', hi', he⟩ := State.fieldFound?_setVm hal hi
  have hi2 : U.fieldFound? C n d = some (c, k', i, f) := hi'
  have hcU : U.heap[a]? = some cell := by rw [hh a (Array.getElem?_eq_some_iff.mp hcell).1]; exact hcell
  have haU : k'.statics = some a := by rw [he]; exact ha
  have e1 : (Term.static C n d).eval #[] s none [] s = cell.slots[f.slot]? := by simp [Term.eval, State.fieldNamed?, hi, hst, ha, hcell, hs]
  have e2 : (Term.static C n d).eval #[] U none [] U = cell.slots[f.slot]? := by simp [Term.eval, State.fieldNamed?, hi2, hst, haU, hcU, hs]
  simp only [Cond.before, Cond.holds, Cond.value] at h ⊢
  rw [e1] at h
  rw [e2]
  exact h
theorem xc_face {s U : State} (hal : s.vm.Alike U.vm) {w : Cond} (h1 : w.faceAtom = true) (h2 : w.onTables = true) (h : w.before #[] s = true) : w.before #[] U = true := by
  have a1 : w.before #[] (s.setVm U.vm) = true := Cond.faceAtom_setVm hal w h1 h
  have a2 : w.before #[] (U.setVm U.vm) = w.before #[] (s.setVm U.vm) := Cond.onTables_vm U.vm w h2
  rw [State.setVm_self] at a2
  rw [a2]
  exact a1
theorem xc_moved {own : String} {ks : List (Nat × String)} {s U : State} (h : xc_ok own ks s) (hW : s.WarmedH U.vm) (hh : ∀ q : Nat, q < s.heap.size → U.heap[q]? = s.heap[q]?) : xc_ok own ks U := by
  have hal : s.vm.Alike U.vm := hW.alike
  obtain ⟨h1, h2, h3, h4⟩ := h
  have a1 := h1 _ (List.mem_of_getElem? (l := xc_w) (i := 0) rfl)
  have a2 := h1 _ (List.mem_of_getElem? (l := xc_w) (i := 1) rfl)
  have a3 := h1 _ (List.mem_of_getElem? (l := xc_w) (i := 2) rfl)
  have a4 := h1 _ (List.mem_of_getElem? (l := xc_w) (i := 3) rfl)
  refine ⟨fun w hw => ?_, fun q hq => ?_, fun w hw => ?_, h4.moved hal⟩
  · simp only [xc_w, List.mem_cons, List.not_mem_nil, or_false] at hw
    rcases hw with rfl | rfl | rfl | rfl
    · exact xc_lays hal hh a1
    · exact xc_lays hal hh a2
    · exact xc_isRef hal hh a1 a3
    · exact xc_isRef hal hh a2 a4
  · obtain ⟨sa, h9⟩ := h2 q hq
    exact ⟨sa, vk_R.warm hW h9⟩
  · have h9 := h3 w hw
    simp only [xc_f, List.mem_cons, List.not_mem_nil, or_false] at hw
    rcases hw with rfl | rfl | rfl | rfl | rfl <;> exact xc_face hal rfl rfl h9
/-- all the words of a throw, out of those of the tables and those that are carried -/
theorem xc_atoms {own : String} {ks : List (Nat × String)} {s : State} {args : Array Value} {ic : Nat} {X : String} {names : List String} {Ts : List Cond} (h : xc_ok own ks s) (hts : ∀ w ∈ Ts, w.before args s = true)
    (hin : ∀ w ∈ Bundle.ownAtoms own ic X names, w ∈ xc_w ∨ w ∈ xc_f ∨ w ∈ Ts) : ∀ w ∈ Bundle.ownAtoms own ic X names, w.before args s = true := by
  intro w hw
  rcases hin w hw with h1 | h1 | h1
  · have h2 := h.1 w h1
    simp only [xc_w, List.mem_cons, List.not_mem_nil, or_false] at h1
    rcases h1 with rfl | rfl | rfl | rfl <;> exact h2
  · have h2 := h.2.2.1 w h1
    simp only [xc_f, List.mem_cons, List.not_mem_nil, or_false] at h1
    rcases h1 with rfl | rfl | rfl | rfl | rfl <;> exact h2
  · exact hts w h1
end XC
/-! Methods that throw (launches without stack traces). A method that may throw has two contracts here: one for the arguments at which it returns (Met), one for those at which it throws (xt_Met): a throw comes ahead of every write, so behind it all that was there is as it was, and the exception's cell is new. -/
section XTA
/-- an invocation made in st has thrown an E: nothing old is changed -/
def xt_Q (E : String) (mc ms : Nat) : Array Value → State → Outcome → State → Prop := fun _ st o t =>
  ∃ (q : Addr) (ce : Cell), o = .threw q ∧ t.heap[q]? = some ce ∧ ce.vm = .none ∧ st.vm.findClass E = some ce.cls ∧ st.WarmedH t.vm ∧ st.sameButNew ({ t with vm := st.vm } : State) [] mc ms
def xt_Met (l : Launch) (y : MethodName) (ws : List Cond) (rm : Room) (Pc : Array Value → State → Prop) (E : String) (mc ms : Nat) : Prop :=
  MetFree l y (headSpec ws rm) Pc (fun _ _ _ _ _ => True) (xt_Q E mc ms)
def xt_Z (below : List Frame) (E : String) (a : Array Value) (s : State) (mc ms : Nat) : State → Prop := fun t =>
  ∃ o, t.status = .running ∧ Ended t below o ∧ xt_Q E mc ms a s o t
theorem xt_ofW {l : Launch} {y : MethodName} {ws ws' : List Cond} {rm : Room} {Pc : Array Value → State → Prop} {E : String} {mc ms : Nat} {cc : ByteArray} {maxL : Nat} {ret : Option FieldType}
    (hy : plainName y.cls = true) (hw : ws = Cond.code y cc maxL ret :: ws')
    (body : ∀ p e s m args below meth c s₁, BodyLoose p l y (headSpec ws rm) cc maxL ret e s m args below meth c s₁ → c.maxLocals = maxL → Pc args s →
      W p l e (headSpec ws rm).room s m args below meth c s.heap [] 0 0 (xt_Z below E args s mc ms) (entryFrame m args maxL)) : xt_Met l y ws rm Pc E mc ms := by
  refine MetFree.of_bodyS (code := cc) (maxLocals := maxL) (ret := ret) hy ?_ ?_
  · intro args s m h hn
    obtain ⟨meth, c, h1, h2, h3, h4, h5, h6, -, -⟩ := Cond.code_spec hn (atoms_spec (ws := ws) h _ (by rw [hw]; exact List.mem_cons_self))
    exact ⟨meth, c, h1, h2, h3, h4, h5, h6⟩
  · intro p e s m args below meth c s₁ B hml hP _
    have hh0 : s₁.heap = s.heap := by rw [B.state]; rfl
    obtain ⟨t, a1, o, b1, b2, b3⟩ := body p e s m args below meth c s₁ B hml hP s₁ hh0 (Stand.of_body B)
    exact ⟨t, o, a1, b1, b2, b3⟩
end XTA
section XTB
variable {p : Program} {l : Launch} {e : Env} {R : Room} {s : State} {m : MethodId} {args : Array Value} {below : List Frame} {meth : Method} {c : Code} {H : Heap} {locs : List Loc} {cells slots : Nat} {Q : State → Prop}
/-- throw new cls("text"), out of the method -/
theorem xt_throw {cc : ByteArray} {pc : Nat} {ls : Array Slot} {rest : List Value} (hexec : p.tables.exec = Jvm.exec) (hb : c.code = cc) (hl : l.stackTraces = false) {own cls text : String} {names : List String} {ik is ic sa mc ms : Nat}
    (hown : s.vm.findClass own = some m.cls) (hcls : Bundle.fit cls = true) (hnames : ∀ n ∈ names, Bundle.fit n = true)
    (hk : (Cond.classLink own ik cls).before args s = true) (hini : (Cond.initialized cls).before args s = true) (hstr : vk_R own is text sa s)
    (hat : ∀ w ∈ Bundle.ownAtoms own ic cls names, w.before args s = true) (hsize : ls.size = c.maxLocals) (hH : s.heap.size ≤ H.size)
    (d0 : decode cc pc = .ok (.new ik, 3)) (d3 : decode cc (pc + 3) = .ok (.dup, 1)) (d4 : decode cc (pc + 4) = .ok (.ldc is, 2)) (d6 : decode cc (pc + 6) = .ok (.invokespecial ic, 3)) (d9 : decode cc (pc + 9) = .ok (.athrow, 1))
    (hout : ∀ x ∈ c.exceptionTable.toList, covers x (pc + 9) = false)
    (hRf : names.length + 3 < R.frames) (hRl : (rest.map fun v => v.category).sum + (13 * (names.length + 1) + 43) ≤ R.locals) (hRc : cells + 1 ≤ R.cells) (hRs : slots + 6 ≤ R.slots) (hlocks : meth.locks = false)
    (hc : cells + 1 ≤ mc) (hs : slots + 6 ≤ ms) :
    W p l e R s m args below meth c H [] cells slots (xt_Z below cls args s mc ms) (F0 m pc ls rest) := by
  have hins : (Cond.instantiable cls 6).before args s = true := hat _ (by simp [Bundle.ownAtoms])
  obtain ⟨cX, kX, hfound, hkX, -⟩ := Cond.instantiable_spec (show (Cond.instantiable cls 6).holds args s none s [] = true from hins)
  refine W.newcK hexec hb hown hk hins hini (g := F0 m pc ls rest) rfl d0 hRc hRs hfound (h := H.size) rfl (fun H1 kC hkC e1 z1 o1 => ?_)
  refine W.eq (g2 := F0 m (pc + 3) ls (.ref H.size :: rest)) rfl ?_
  refine lv_dup hexec hb d3 rfl ?_
  refine va_ldcS hexec hb hown hstr d4 ?_
  intro T hT X
  have htr : e.platform.stackTraces = false := (show e.platform.stackTraces = l.stackTraces by rw [X.admits.platform]).trans hl
  cases Option.some.inj (hkX.symm.trans hkC)
  obtain ⟨U, hst, hrun, hend, hW, hsame, ce, hce, hO⟩ := X.ctorThrowS hexec htr hown hcls hnames hat (fun x hx => by cases hx) hfound hkX (a := H.size) (by rw [hT]; exact e1) hH (msg := .ref sa) rfl
    (g := F0 m (pc + 4 + 2) ls (.ref sa :: .ref H.size :: .ref H.size :: rest)) rfl hsize rfl rfl (rest := rest) rfl (by rw [hb]; exact d6) (by rw [hb]; exact d9) hout hRf
    (by show 2 * 0 + ((1 : Nat) + (rest.map fun v => v.category).sum) + _ ≤ _; omega) hlocks
  exact ⟨U, hst, .threw H.size, hrun, hend, H.size, ce, rfl, hce, hO.vm, hO.cls, hW, hsame.mono hc hs⟩
/-- a call that throws: the machine stands in the caller's frame again, the exception over it -/
def xt_Run (p : Program) (l : Launch) (e : Env) (R : Room) (s : State) (m : MethodId) (args : Array Value) (below : List Frame) (meth : Method) (c : Code) (H : Heap) (locs : List Loc) (cells slots mc ms : Nat) (E : String) (g : JFrame) (rest : List Value) : Prop :=
  ∀ T : State, T.heap = H → Stand p l e R s m args below meth c T locs cells slots → ∃ (q : Addr) (ce : Cell) (T' : State), Stand p l e R s m args below meth c T' locs (cells + mc) (slots + ms) ∧ T'.heap[q]? = some ce ∧ ce.vm = .none ∧ s.vm.findClass E = some ce.cls ∧ H.size ≤ T'.heap.size ∧ (∀ z : Nat, z < H.size → T'.heap[z]? = H[z]?) ∧
    ∀ target, Steps p.tables e below ((T'.setTop { g with stack := rest }).pushFrame (.throwing q)) target → Steps p.tables e below (T.setTop g) target
theorem xt_back {y : MethodName} {ws : List Cond} {rm : Room} {Pc : Array Value → State → Prop} {E : String} {mc ms : Nat} {bytes : ByteArray} {maxL len : Nat} {ret : Option FieldType} {U : State} {g : JFrame} {ig : Instr} {mk : MethodId} {a : Array Value}
    (X : Stand p l e R s m args below meth c U locs cells slots) (hM : xt_Met l y ws rm Pc E mc ms) (hblind : FrameBlind Pc) (hrc : rm.cells = mc) (hrs : rm.slots = ms) (hframes : rm.frames + 1 ≤ R.frames) (hlocals : 8 + (maxL + 11) + rm.locals ≤ R.locals)
    (hws : ∀ w ∈ ws, ∀ (a' : Array Value) (U : State), s.WarmedH U.vm → w.before a' U = true) (hcode : Cond.code y bytes maxL ret ∈ ws) (hinit : ∀ (a' : Array Value) (U : State), s.WarmedH U.vm → (Cond.initialized y.cls).before a' U = true)
    (hg : g.method = m) (hsize : g.locals.size = c.maxLocals) (hdg : decode c.code g.pc = .ok (ig, len)) (hW8 : 2 * g.monitorRoom + (g.stack.map fun v => v.category).sum ≤ 8) (hn : U.methodNamed? y = some mk)
    (hcells : cells + mc ≤ R.cells) (hslots : slots + ms ≤ R.slots) (hPc : Pc a U) :
    ∃ (q : Addr) (ce : Cell) (T' : State), Stand p l e R s m args below meth c T' locs (cells + mc) (slots + ms) ∧ T'.heap[q]? = some ce ∧ ce.vm = .none ∧ U.vm.findClass E = some ce.cls ∧ U.heap.size ≤ T'.heap.size ∧ (∀ z : Nat, z < U.heap.size → T'.heap[z]? = U.heap[z]?) ∧
      Steps p.tables e below (doInvoke e (U.setTop g) [] mk a).1 ((T'.setTop g).pushFrame (.throwing q)) := by
  have h1 : (headSpec ws rm).pre.before a U = true := atoms_intro fun w hw => hws w hw _ _ X.warmed
  have h2 : (Cond.code y bytes maxL ret).before a U = true := hws _ hcode _ _ X.warmed
  have h3 : (Cond.initialized y.cls).before a U = true := hinit _ _ X.warmed
  obtain ⟨methY, cY, hmY, hcY, -, hlY, -, -, -, -⟩ := Cond.code_spec hn h2
  obtain ⟨kY, hkY, -⟩ := className_of_methodNamed hn
  have hinitY : kY.init = .initialized := Cond.initialized_spec (findClass_of_methodNamed hn) hkY h3
  have h : At U g.method c below := by rw [hg]; exact X.here
  have happ : (headSpec ws rm).appliesLoose y e.platform (U.calling g mk a) = true :=
    Spec.appliesLoose_calling (g := g) h hdg hn hkY hinitY
      (X.room_calling (g := g) (R' := (headSpec ws rm).room) hsize hmY hcY hframes (by rw [hlY]; show _ + rm.locals ≤ _; omega) (by show cells + rm.cells ≤ _; rw [hrc]; exact hcells) (by show slots + rm.slots ≤ _; rw [hrs]; exact hslots)) h1
  obtain ⟨mid, hmid⟩ := h.above
  have hfr : (U.setTop g).frames = (.java g :: mid) ++ below := by rw [State.frames_setTop' g h.top, hmid]; rfl
  obtain ⟨o, s₂, hsteps, -, hend, hq⟩ := Steps.callFree hM p X.admits X.cas X.clock (acts := []) hfr happ (hblind _ _ _ _ hPc) trivial
  rw [State.frames_setTop' g h.top, X.tail] at hend
  obtain ⟨q, ce, rfl, hce, hv, hcl, hW, hsame⟩ := hq
  obtain ⟨T', X', hWT, hsT, ht⟩ := X.outOfThrown hg hend hW hsame
  have hh : T'.heap = s₂.heap := by rw [ht]; simp [State.pushFrame, State.setFrames, State.setTop, State.modifyTopJava]
  have hX' : Stand p l e R s m args below meth c T' locs (cells + mc) (slots + ms) := by simpa using X'
  refine ⟨q, ce, T', hX', by rw [hh]; exact hce, hv, hcl, hsT.2.1, fun z hz => ?_, by rw [← ht]; exact hsteps⟩
  obtain ⟨cz, hcz⟩ : ∃ cz, U.heap[z]? = some cz := ⟨_, Array.getElem?_eq_getElem hz⟩
  rw [hcz]
  exact hsT.old_cell hcz
variable {y : MethodName} {bytes cc : ByteArray} {maxL nL mc ms n index pc : Nat} {ret : Option FieldType} {ws Ts : List Cond} {rm : Room} {Pc : Array Value → State → Prop} {own C E : String} {b : Addr} {As rest st0 : List Value} {ls : Array Slot} {g : JFrame}
theorem xt_runV (S : CallFix p m c cc nL s args Ts own) (hM : xt_Met l y ws rm Pc E mc ms) (cw : CallW R s args own C index y bytes maxL ret ws rm mc ms n) (hp : PreV s H C b Pc As)
    (hg : g.method = m) (hn : As.length = n) (hsize : g.locals.size = nL) (hstack : g.stack = As.reverse ++ .ref b :: rest) (hW : 2 * g.monitorRoom + (rest.map fun v => v.category).sum ≤ 8) (hdg : decode cc g.pc = .ok (.invokevirtual index, 3)) (hf : cells + mc ≤ R.cells ∧ slots + ms ≤ R.slots) :
    xt_Run p l e R s m args below meth c H locs cells slots mc ms E g rest := by
  obtain ⟨⟨hrc, hrs, hfr, hlo, hws, hcw, hcode, hini, hy, hlen, hlk⟩, hinst, hsel⟩ := cw
  obtain ⟨hx, hb, hml, ho, -⟩ := S
  obtain ⟨hbl, ⟨cellB, hcB, hoB, hclB⟩, hPc⟩ := hp
  intro T hT X
  obtain ⟨mk, methM, hnamed, hmethM, hstM, habM⟩ := Cond.instanceMethod_spec hinst
  obtain ⟨methM', cM, hmethM', -, -, -, -, -, -, hsigM⟩ := Cond.code_spec hnamed hcode
  cases hmethM.symm.trans hmethM'
  obtain ⟨c2, r2, m2, q1, q2, q3, q4, kP, hkP, hkPi⟩ := Cond.selects_spec hsel
  cases hclB.symm.trans q1
  cases (State.methodFound?_of_named hnamed hy).symm.trans q2
  cases hnamed.symm.trans q3
  have hselP : selectMethod e.platform s.vm cellB.cls mk = .method mk := by rw [Launch.admits_selectMethod X.admits]; exact q4
  obtain ⟨vm₁, X₁, hstep₁⟩ := X.invokevirtual hx ho hlk hnamed hmethM hstM hkP hkPi hy (a := b) (cell := cellB) (by rw [hT]; exact hcB)
    (fun z h => by rw [h] at hoB; cases hoB) hselP hmethM habM hkP hkPi (g := g) hg (argsL := As) (rest := rest) (hn.trans (hlen _ hsigM)) hstack (by rw [hb]; exact hdg)
  obtain ⟨q, ce, T', X', a1, a2, a3, a4, a5, st⟩ := xt_back (g := { g with stack := rest }) (ig := .invokevirtual index) (len := 3) (bytes := bytes) (maxL := maxL) (ret := ret) X₁ hM hbl hrc hrs hfr hlo hws hcw
    (fun a' U hW => word_at hW (Or.inl (by first | rfl | simp [Cond.onTables, Cond.keeps, Cond.steady])) hini) hg (hsize.trans hml.symm) (by rw [hb]; exact hdg) hW (X₁.named hnamed) hf.1 hf.2 (hPc (T.setVm vm₁) hT X₁.warmed)
  have ev : s.vm.findClass E = some ce.cls := by
    have h9 := X₁.warmed.alike.findClass E
    rw [← h9]; exact a3
  have hT1 : (T.setVm vm₁).heap = H := hT
  rw [hT1] at a4 a5
  exact ⟨q, ce, T', X', a1, a2, ev, a4, a5, fun target h => hstep₁ _ fun acts => by rw [doInvoke_state]; exact st.trans h⟩
theorem xt_runS (S : CallFix p m c cc nL s args Ts own) (hM : xt_Met l y ws rm Pc E mc ms) (cw : CallB R s args own index y bytes maxL ret ws rm mc ms n ∧ (Cond.static y).before args s = true) (hp : PreS s H Pc As)
    (hg : g.method = m) (hn : As.length = n) (hsize : g.locals.size = nL) (hstack : g.stack = As.reverse ++ rest) (hW : 2 * g.monitorRoom + (rest.map fun v => v.category).sum ≤ 8) (hdg : decode cc g.pc = .ok (.invokestatic index, 3)) (hf : cells + mc ≤ R.cells ∧ slots + ms ≤ R.slots) :
    xt_Run p l e R s m args below meth c H locs cells slots mc ms E g rest := by
  obtain ⟨⟨hrc, hrs, hfr, hlo, hws, hcw, hcode, hini, hy, hlen, hlk⟩, hstt⟩ := cw
  obtain ⟨hx, hb, hml, ho, -⟩ := S
  obtain ⟨hbl, hPc⟩ := hp
  intro T hT X
  obtain ⟨mk, hnamed⟩ := Cond.code_named hcode
  obtain ⟨methM, cM, hmethM, -, -, -, -, -, -, hsigM⟩ := Cond.code_spec hnamed hcode
  have hstatic : methM.isStatic = true := Cond.static_spec hnamed hmethM hstt
  obtain ⟨kP, hkP, -⟩ := className_of_methodNamed hnamed
  have hinitP : kP.init = .initialized := Cond.initialized_spec (findClass_of_methodNamed hnamed) hkP hini
  obtain ⟨vm₁, X₁, hstep₁⟩ := X.invokestatic hx ho hlk hnamed hmethM hstatic hkP hinitP hy (g := g) hg (argsL := As) (rest := rest) (hn.trans (hlen _ hsigM)) hstack (by rw [hb]; exact hdg)
  obtain ⟨q, ce, T', X', a1, a2, a3, a4, a5, st⟩ := xt_back (g := { g with stack := rest }) (ig := .invokestatic index) (len := 3) (bytes := bytes) (maxL := maxL) (ret := ret) X₁ hM hbl hrc hrs hfr hlo hws hcw
    (fun a' U hW => word_at hW (Or.inl (by first | rfl | simp [Cond.onTables, Cond.keeps, Cond.steady])) hini) hg (hsize.trans hml.symm) (by rw [hb]; exact hdg) hW (X₁.named hnamed) hf.1 hf.2 (hPc (T.setVm vm₁) hT X₁.warmed)
  have ev : s.vm.findClass E = some ce.cls := by
    have h9 := X₁.warmed.alike.findClass E
    rw [← h9]; exact a3
  have hT1 : (T.setVm vm₁).heap = H := hT
  rw [hT1] at a4 a5
  exact ⟨q, ce, T', X', a1, a2, ev, a4, a5, fun target h => hstep₁ _ fun acts => by rw [doInvoke_state]; exact st.trans h⟩
/-- the caller throws it on -/
theorem xt_pass {mc0 ms0 : Nat} (hr : xt_Run p l e R s m args below meth c H [] cells slots mc ms E (F0 m pc ls st0) rest) (hout : ∀ x ∈ c.exceptionTable.toList, covers x pc = false) (hlocks : meth.locks = false)
    (hc : cells + mc ≤ mc0) (hs : slots + ms ≤ ms0) : W p l e R s m args below meth c H [] cells slots (xt_Z below E args s mc0 ms0) (F0 m pc ls st0) := by
  intro T hT X
  obtain ⟨q, ce, T', X', a1, a2, a3, a4, a5, st⟩ := hr T hT X
  obtain ⟨w1, w2, w3, w4, w5⟩ := X'.leaveThrown q (g := F0 m pc ls rest) rfl rfl rfl hout hlocks
  exact ⟨_, st _ w1, .threw q, w2, w3, q, ce, rfl, a1, a2, a3, w4, w5.mono hc hs⟩
end XTB
/-! into a handler whose class may not be resolved yet -/
section XTC
variable {p : Program} {l : Launch} {e : Env} {R : Room} {s : State} {m : MethodId} {args : Array Value} {below : List Frame} {meth : Method} {c : Code} {H : Heap} {locs : List Loc} {cells slots : Nat} {Q : State → Prop}
/-- an entry of the table at this pc: passed by, or taken -/
def xt_By (pl : Platform) (s : State) (d : ClassId) (pc : Nat) (k : ClassId) (y : ExceptionTableEntry) : Prop :=
  covers y pc = false ∨ (y.catchType ≠ 0 ∧ ∃ cy, s.vm.ClassLinks pl d y.catchType cy ∧ s.vm.assignable k cy = false)
theorem xt_search {S0 : State} {f : JFrame} {a : Addr} {cell : Cell} {x : ExceptionTableEntry} {cx : ClassId} (suf : List ExceptionTableEntry) (hobj : ∀ k, cell.vm ≠ .statics k) (hk0 : ∃ k, s.vm.classes[cell.cls]? = some k) (hx : covers x f.pc = true) (h0 : x.catchType ≠ 0)
    (hl : s.vm.ClassLinks e.platform f.method.cls x.catchType cx) (hfit : s.vm.assignable cell.cls cx = true) :
    ∀ (pre : List ExceptionTableEntry) (S : State), s.WarmedH S.vm → S.heap[a]? = some cell → (∀ y ∈ pre, xt_By e.platform s f.method.cls f.pc cell.cls y) →
      ∃ vm', s.WarmedH vm' ∧ ∀ (Q : Handler → Pre) (E : CtlPost) (d : Bool) (acts : List Action), wp (findHandler.go f a (pre ++ x :: suf)) Q E e d acts S ↔ Q (.found x.handlerPc) d acts (S.setVm vm') := by
  obtain ⟨k0, hk0⟩ := hk0
  intro pre
  induction pre with
  | nil =>
    intro S hW hcell _
    obtain ⟨k1, hk1, -⟩ := hW.alike.2.2 _ _ hk0
    obtain ⟨dk, _, _, kt, hd, _, _, _, _, hkt, _, hopen⟩ := hl.here
    obtain ⟨k2, hk2, -⟩ := hW.alike.2.2 _ _ hkt
    have hl1 := hW.classLinks hl
    refine ⟨S.vm.noted f.method.cls x.catchType (.cls cx), hW.noted hd hopen (State.rightAt_cls hl), fun Q E d acts => ?_⟩
    have hx1 := hx
    simp only [covers] at hx1
    obtain ⟨ha, ht⟩ := (resolveClass_links e.toSetting hl1).op (op := VmOp.resolveClass f.method.cls x.catchType) rfl
    have hal : S.vm.Alike (S.vm.noted f.method.cls x.catchType (.cls cx)) := (Vm.Alike.refl S.vm).noted _ _ _
    obtain ⟨k1', hk1', -⟩ := hal.2.2 _ _ hk1
    obtain ⟨k2', hk2', -⟩ := hal.2.2 _ _ hk2
    have hfit' : (S.vm.noted f.method.cls x.catchType (.cls cx)).assignable cell.cls cx = true := by rw [hal.assignable, hW.alike.assignable]; exact hfit
    simp [findHandler.go, hx1, h0, ha, ht, hcell, hobj, hk1', hk2', hfit', VmOp.dirties, VmOp.acts]
  | cons y ys ih =>
    intro S hW hcell hpass
    have hrest : ∀ z ∈ ys, xt_By e.platform s f.method.cls f.pc cell.cls z := fun z hz => hpass z (List.mem_cons_of_mem _ hz)
    rcases hpass y (List.mem_cons_self ..) with hno | ⟨hy0, cy, hly, hny⟩
    · obtain ⟨vm', hW', hq⟩ := ih S hW hcell hrest
      exact ⟨vm', hW', fun Q E d acts => by rw [List.cons_append, W.findHandler_go_skip hno]; exact hq Q E d acts⟩
    · by_cases hcov : covers y f.pc = true
      · obtain ⟨k1, hk1, -⟩ := hW.alike.2.2 _ _ hk0
        obtain ⟨dk, _, _, kt, hd, _, _, _, _, hkt, _, hopen⟩ := hly.here
        obtain ⟨k2, hk2, -⟩ := hW.alike.2.2 _ _ hkt
        obtain ⟨vm', hW', hq⟩ := ih (S.setVm (S.vm.noted f.method.cls y.catchType (.cls cy))) (hW.noted hd hopen (State.rightAt_cls hly)) hcell hrest
        refine ⟨vm', hW', fun Q E d acts => ?_⟩
        have hx1 := hcov
        simp only [covers] at hx1
        obtain ⟨ha, ht⟩ := (resolveClass_links e.toSetting (hW.classLinks hly)).op (op := VmOp.resolveClass f.method.cls y.catchType) rfl
        have hal : S.vm.Alike (S.vm.noted f.method.cls y.catchType (.cls cy)) := (Vm.Alike.refl S.vm).noted _ _ _
        obtain ⟨k1', hk1', -⟩ := hal.2.2 _ _ hk1
        obtain ⟨k2', hk2', -⟩ := hal.2.2 _ _ hk2
        have hno' : (S.vm.noted f.method.cls y.catchType (.cls cy)).assignable cell.cls cy = false := by rw [hal.assignable, hW.alike.assignable]; exact hny
        rw [List.cons_append]
        refine Iff.trans ?_ (hq Q E d acts)
        simp [findHandler.go, hx1, hy0, ha, ht, hcell, hobj, hk1', hk2', hno', VmOp.dirties, VmOp.acts]
      · obtain ⟨vm', hW', hq⟩ := ih S hW hcell hrest
        exact ⟨vm', hW', fun Q E d acts => by rw [List.cons_append, W.findHandler_go_skip (by simpa using hcov)]; exact hq Q E d acts⟩
theorem xt_caught {g : JFrame} {a : Addr} {T : State} (X : Stand p l e R s m args below meth c T locs cells slots) (hg : g.method = m) {pc : Nat} {vm' : Vm}
    (hfind : ∀ (Q : Handler → Pre) (E : CtlPost) (d : Bool) (acts : List Action), wp (findHandler g a) Q E e d acts ((T.setTop g).pushFrame (.throwing a)) ↔ Q (.found pc) d acts (((T.setTop g).pushFrame (.throwing a)).setVm vm')) {target : State}
    (hrest : Steps p.tables e below ((T.setVm vm').setTop { g with pc := pc, stack := [.ref a] }) target) : Steps p.tables e below ((T.setTop g).pushFrame (.throwing a)) target := by
  subst hg
  obtain ⟨hgo, hw⟩ := X.here.throwing a
  refine Steps.head hgo hw ?_
  have hstep : (stepThrowing e ((T.setTop g).pushFrame (.throwing a)) a (.java g :: T.frames.tail)).Is ((((T.setTop g).pushFrame (.throwing a)).setVm vm').setFrames (.java { g with pc := pc, stack := [.ref a] } :: T.frames.tail)) [] := by
    simp only [stepThrowing, searchFrame, vmDo]
    generalize hr : Sem.go _ e false [] _ = res
    obtain ⟨as, rfl, ha⟩ := Sem.eq_ok_of hr (a := Handler.found pc) (s' := ((T.setTop g).pushFrame (.throwing a)).setVm vm') (acts' := []) (by simp [hfind _ _ _ _])
    exact ⟨rfl, ha⟩
  rw [stepThread_throwing (frames_entered X.here.top _), hstep.1]
  obtain ⟨g₀, hg0⟩ := Option.isSome_iff_exists.mp X.here.top
  obtain ⟨r, hr⟩ := State.topJava?_eq_some.mp hg0
  have hr' : (T.setVm vm').frames = .java g₀ :: r := hr
  rw [State.setTop_of_frames _ hr'] at hrest
  have e9 : (((T.setTop g).pushFrame (.throwing a)).setVm vm').setFrames (.java { g with pc := pc, stack := [.ref a] } :: T.frames.tail) = (T.setVm vm').setFrames (.java { g with pc := pc, stack := [.ref a] } :: r) := by
    rw [hr, List.tail_cons, State.pushFrame, State.setTop_of_frames _ hr]
    show (((T.setVm vm').setFrames _).setFrames _).setFrames _ = _
    rw [State.setFrames_setFrames, State.setFrames_setFrames]
  rw [e9]
  exact hrest
variable {E name own : String} {mc ms pc : Nat} {ls : Array Slot} {st0 rest : List Value}
theorem xt_catch (hr : xt_Run p l e R s m args below meth c H locs cells slots mc ms E (F0 m pc ls st0) rest) (hown : s.vm.findClass own = some m.cls) (pre : List ExceptionTableEntry) (x : ExceptionTableEntry) (suf : List ExceptionTableEntry) (hsplit : c.exceptionTable.toList = pre ++ x :: suf)
    (hpass : ∀ z ∈ pre, covers z pc = false ∨ (z.catchType ≠ 0 ∧ ∃ nm : String, (Cond.classLink own z.catchType nm).before args s = true ∧ va_Nc E nm s)) (hx : covers x pc = true) (h0 : x.catchType ≠ 0)
    (hlink : (Cond.classLink own x.catchType name).before args s = true) (hcast : (Cond.castable E name).before args s = true)
    (kk : ∀ (q : Addr) (H1 : Heap), H.size ≤ H1.size → (∀ z : Nat, z < H.size → H1[z]? = H[z]?) → W p l e R s m args below meth c H1 locs (cells + mc) (slots + ms) Q (F0 m x.handlerPc ls [.ref q])) : W p l e R s m args below meth c H locs cells slots Q (F0 m pc ls st0) := by
  intro T hT X
  obtain ⟨q, ce, T', X', a1, a2, a3, a4, a5, st⟩ := hr T hT X
  have hpl : e.platform.magicAccessors = ({} : Platform).magicAccessors := by rw [X.admits.platform]
  obtain ⟨c3, c4, hc3, hc4, hasg⟩ := Cond.castable_spec hcast
  cases Option.some.inj (hc3.symm.trans a3)
  obtain ⟨c5, hc5, hcl5⟩ := Cond.classLink_spec hown hlink e.platform hpl
  cases Option.some.inj (hc4.symm.trans hc5)
  obtain ⟨vm', hW', hq⟩ := xt_search (S0 := T') (e := e) (f := F0 m pc ls rest) (a := q) suf (VmData.ne_statics_of (by rw [a2]; rfl)) (by obtain ⟨k9, h9, -⟩ := Vm.findClass_spec a3; exact ⟨k9, h9⟩) hx h0 hcl5 hasg pre ((T'.setTop (F0 m pc ls rest)).pushFrame (.throwing q)) X'.warmed a1
    (fun z hz => by
      rcases hpass z hz with h | ⟨hz0, nm, hl1, hn1⟩
      · exact Or.inl h
      · obtain ⟨c6, hc6, hcl6⟩ := Cond.classLink_spec hown hl1 e.platform hpl
        obtain ⟨a8, b8, h1, h2, h3⟩ := hn1
        cases Option.some.inj (h1.symm.trans a3)
        cases Option.some.inj (h2.symm.trans hc6)
        exact Or.inr ⟨hz0, _, hcl6, h3⟩)
  obtain ⟨t, b1, b2⟩ := kk q T'.heap a4 a5 (T'.setVm vm') rfl (X'.noted hW')
  refine ⟨t, st t (xt_caught X' rfl (pc := x.handlerPc) (vm' := vm') (fun Q E d acts => ?_) b1), b2⟩
  exact (W.findHandler_eq (s := (T'.setTop (F0 m pc ls rest)).pushFrame (.throwing q)) (f := F0 m pc ls rest) (meth := meth) (code := c) X'.method' X'.code).trans (by rw [hsplit]; exact hq Q E d acts)
end XTC
/-! ONE list of words for every method: all good words of the tables; a method's own list is its code before it -/
section XR
def wAll : List Cond := lw_tbl.filter goodWord
theorem wAll_tbl {w : Cond} (h : w ∈ wAll) : w ∈ lw_tbl := (List.mem_filter.mp h).1
theorem wAll_good {w : Cond} (h : w ∈ wAll) : (w.onTables && w.keeps) = true ∨ ∃ ty, w = .arrayClass ty := good_of_word (List.mem_filter.mp h).2
theorem wAll_in {w : Cond} {k : Nat} (h : tables_1[k]? = some w) (hg : goodWord w = true) : w ∈ wAll := List.mem_filter.mpr ⟨List.mem_append_right _ (List.mem_of_getElem? h), hg⟩
theorem wAll_sel {w : Cond} {k : Nat} (h : (k2_sels lw_privs)[k]? = some w) (hg : goodWord w = true) : w ∈ wAll := List.mem_filter.mpr ⟨List.mem_append_left _ (List.mem_of_getElem? h), hg⟩
theorem wAll_v {own C : String} {idx : Nat} {y : MethodName} {b : ByteArray} {n : Nat} {r : Option FieldType} (h1 : Cond.methodLink own idx y ∈ wAll) (h2 : Cond.instanceMethod y ∈ wAll) (h3 : Cond.selects C y y ∈ wAll) (h4 : Cond.initialized C ∈ wAll) (h5 : Cond.code y b n r ∈ wAll) : GoodIn wAll (wsV own idx C y (.code y b n r :: wAll)) := by
  intro w hw
  have hm : w ∈ wAll := by
    simp only [wsV, List.cons_append, List.nil_append, List.mem_cons] at hw
    rcases hw with rfl | rfl | rfl | rfl | rfl | h
    · exact h1
    · exact h2
    · exact h3
    · exact h4
    · exact h5
    · exact h
  exact ⟨hm, wAll_good hm⟩
theorem wAll_s {own : String} {idx : Nat} {y : MethodName} {b : ByteArray} {n : Nat} {r : Option FieldType} (h1 : Cond.methodLink own idx y ∈ wAll) (h2 : Cond.static y ∈ wAll) (h4 : Cond.initialized own ∈ wAll) (h5 : Cond.code y b n r ∈ wAll) : GoodIn wAll (wsS own idx y (.code y b n r :: wAll)) := by
  intro w hw
  have hm : w ∈ wAll := by
    simp only [wsS, List.cons_append, List.nil_append, List.mem_cons] at hw
    rcases hw with rfl | rfl | rfl | rfl | h
    · exact h1
    · exact h2
    · exact h4
    · exact h5
    · exact h
  exact ⟨hm, wAll_good hm⟩
theorem wAll_c {y : MethodName} {b : ByteArray} {n : Nat} {r : Option FieldType} (h5 : Cond.code y b n r ∈ wAll) : GoodIn wAll (.code y b n r :: wAll) := by
  intro w hw
  have hm : w ∈ wAll := by
    rcases List.mem_cons.mp hw with rfl | h
    · exact h5
    · exact h
  exact ⟨hm, wAll_good hm⟩
theorem u_mem {C : String} {T : u_T} {N : Nat} {w : Cond} (h : w ∈ u_ws C T N) : ∃ k, k < N ∧ w = u_lay C T k := by
  obtain ⟨k, hk, e⟩ := List.mem_map.mp h
  exact ⟨k, List.mem_range.mp hk, e.symm⟩
theorem hts_all {c0 : Cond} {args : Array Value} {s : State} (h : ∀ w ∈ c0 :: wAll, w.before args s = true) : ∀ w ∈ wAll, w.before args s = true := fun w hw => h w (List.mem_cons_of_mem _ hw)
/-- a start: the cells, and what the tables say -/
def ro_P (av : List Value) (D : va_G) (cl : List vw_C) (tys : List (ClassId × FieldType)) (ws : va_W) (B : State → Prop) : Array Value → State → Prop := va_Pc av (fun U => va_P D cl ws U.heap ∧ va_K D cl tys U ∧ B U)
def bl_ok (B : State → Prop) : Prop := ∀ (U : State) (g : JFrame) (mk : MethodId) (a : Array Value), B U → B (U.calling g mk a)
theorem bl_tt : bl_ok (fun _ => True) := fun _ _ _ _ _ => trivial
theorem bl_xc {own : String} {ks : List (Nat × String)} : bl_ok (xc_ok own ks) := fun U g mk a h => xc_moved h (by show U.WarmedH U.vm; exact State.WarmedH.refl U) (fun _ _ => rfl)
theorem ro_blind {av : List Value} {D : va_G} {cl : List vw_C} {tys : List (ClassId × FieldType)} {ws : va_W} {B : State → Prop} (hB : bl_ok B) : FrameBlind (ro_P av D cl tys ws B) := fun a U g mk h => ⟨h.1, h.2.1, va_K.moved (u := U) (U := U.calling g mk a) (Vm.Alike.refl U.vm) h.2.2.1, hB U g mk a h.2.2.2⟩
theorem ro_preV {D : va_G} {cl : List vw_C} {tys : List (ClassId × FieldType)} {ws : va_W} {B : State → Prop} {s : State} {H : Heap} {C : String} {T : u_T} {N b q0 ci : Nat} {fs As : List Value} (hB : bl_ok B) (hK : va_K D cl tys s) (hP : va_P D cl ws H) (hc : cl[ci]? = some (C, T, N)) (he : ws[q0]? = some (b, .inr (ci, fs))) (hb : ∀ U : State, U.heap = H → s.WarmedH U.vm → B U) : PreV s H C b (ro_P (.ref b :: As) D cl tys ws B) As :=
  ⟨ro_blind hB, va_recv hK hP hc he, fun U hU hW => ⟨rfl, by rw [hU]; exact hP, va_K.moved hW.alike hK, hb U hU hW⟩⟩
theorem ro_preS {D : va_G} {cl : List vw_C} {tys : List (ClassId × FieldType)} {ws : va_W} {B : State → Prop} {s : State} {H : Heap} {As : List Value} (hB : bl_ok B) (hK : va_K D cl tys s) (hP : va_P D cl ws H) (hb : ∀ U : State, U.heap = H → s.WarmedH U.vm → B U) : PreS s H (ro_P As D cl tys ws B) As :=
  ⟨ro_blind hB, fun U hU hW => ⟨rfl, by rw [hU]; exact hP, va_K.moved hW.alike hK, hb U hU hW⟩⟩
/-- a start of a method that writes -/
def mu_P (av : List Value) (D : va_G) (cl : List vw_C) (tys : List (ClassId × FieldType)) (ws : va_W) (sz : Nat) : Array Value → State → Prop := va_Pc av (fun U => U.heap.size = sz ∧ va_P D cl ws U.heap ∧ va_K D cl tys U ∧ va_D (fun _ => True) ws)
def mu_B (D : va_G) (cl : List vw_C) (tys : List (ClassId × FieldType)) (A : Nat → Prop) (ws : va_W) : Unit → State → Prop := fun _ t => va_P D cl ws t.heap ∧ va_K D cl tys t ∧ va_D A ws
theorem mu_blind {av : List Value} {D : va_G} {cl : List vw_C} {tys : List (ClassId × FieldType)} {ws : va_W} {sz : Nat} : FrameBlind (mu_P av D cl tys ws sz) := fun a U g mk h => ⟨h.1, h.2.1, h.2.2.1, va_K.moved (u := U) (U := U.calling g mk a) (Vm.Alike.refl U.vm) h.2.2.2.1, h.2.2.2.2⟩
theorem mu_preV {D : va_G} {cl : List vw_C} {tys : List (ClassId × FieldType)} {ws : va_W} {s : State} {H : Heap} {C : String} {T : u_T} {N b q0 ci : Nat} {fs As : List Value} {A : Nat → Prop} (hK : va_K D cl tys s) (hP : va_P D cl ws H) (hD : va_D A ws) (hc : cl[ci]? = some (C, T, N)) (he : ws[q0]? = some (b, .inr (ci, fs))) : PreV s H C b (mu_P (.ref b :: As) D cl tys ws H.size) As :=
  ⟨mu_blind, va_recv hK hP hc he, fun U hU hW => ⟨rfl, by rw [hU], by rw [hU]; exact hP, va_K.moved hW.alike hK, hD.weaken (fun _ _ _ _ => trivial)⟩⟩
end XR
/-! static methods that have handlers: called, and what their table is -/
section XW
variable {p : Program} {l : Launch} {e : Env} {R : Room} {s : State} {m : MethodId} {args : Array Value} {below : List Frame} {meth : Method} {c : Code} {H : Heap} {locs : List Loc} {cells slots : Nat} {Q : State → Prop}
theorem xt_nil {t : Array ExceptionTableEntry} (h : t.isEmpty = true) : t.toList = [] := by
  have h0 : t.size = 0 := by simpa [Array.isEmpty] using h
  exact List.eq_nil_of_length_eq_zero (by simpa using h0)
theorem xw_table {y : MethodName} {bytes : ByteArray} {maxL : Nat} {ret : Option FieldType} {hh : List (Nat × Nat × Nat × Nat)} {T : State} (X : Stand p l e R s m args below meth c T locs cells slots) (hn : s.methodNamed? y = some m) (h : (Cond.codeWith y bytes maxL ret hh).before args s = true) : c.exceptionTable.toList = tableOf hh := by
  obtain ⟨m9, meth', c', hn9, h1, h2, -, -, h5, -⟩ := Cond.codeWith_spec h
  cases hn.symm.trans hn9
  cases X.method.symm.trans h1
  cases X.code.symm.trans h2
  rw [← h5, table_eq]
variable {y : MethodName} {bytes cc : ByteArray} {maxL nL mc ms n index pc : Nat} {ret : Option FieldType} {hh : List (Nat × Nat × Nat × Nat)} {ws Ts : List Cond} {rm : Room} {Pc : Array Value → State → Prop} {Qc : Array Value → State → Outcome → State → Prop} {free : Addr → Prop} {own : String} {As rest : List Value} {g : JFrame}
theorem xw_runS (S : CallFix p m c cc nL s args wAll own) (hM : Met l y (Cond.codeWith y bytes maxL ret hh :: wAll) rm Pc Qc mc ms free) (kc : Cond.codeWith y bytes maxL ret hh ∈ wAll) (kl : Cond.methodLink own index y ∈ wAll) (ks : Cond.static y ∈ wAll) (ki : Cond.initialized y.cls ∈ wAll) (hrc : rm.cells = mc) (hrs : rm.slots = ms)
    (hd : y.cls ≠ "java/lang/invoke/MethodHandle" ∧ y.cls ≠ "java/lang/invoke/VarHandle" ∧ (parseMethodDescriptor y.desc).map (fun d => d.parameters.length) = some n) (hR : rm.frames + 1 ≤ R.frames ∧ 8 + (maxL + 11) + rm.locals ≤ R.locals) (hp : PreS s H Pc As)
    (hg : g.method = m) (hn : As.length = n) (hsize : g.locals.size = nL) (hstack : g.stack = As.reverse ++ rest) (hW : 2 * g.monitorRoom + (rest.map fun v => v.category).sum ≤ 8) (hdg : decode cc g.pc = .ok (.invokestatic index, 3)) (hf : cells + mc ≤ R.cells ∧ slots + ms ≤ R.slots) :
    va_Run p l e R s m args below meth c H locs cells slots mc ms g rest (Qc As.toArray) free := by
  obtain ⟨hx, hb, hml, ho, hts⟩ := S
  have hG : GoodIn wAll (Cond.codeWith y bytes maxL ret hh :: wAll) := by
    intro w hw
    have hm : w ∈ wAll := by
      rcases List.mem_cons.mp hw with rfl | h
      · exact kc
      · exact h
    exact ⟨hm, wAll_good hm⟩
  have hini := hts _ ki
  have hK : Back l R p e below s args y 3 8 (PreOf R mc ms Pc) (PostOf Qc mc ms free) := va_backW (hh := hh) (bytes := bytes) (maxL := maxL) (ret := ret) hM hp.1 hrc hrs hR.1 hR.2 (pay_in hts hG) List.mem_cons_self (fun a' U hW => word_at hW (Or.inl (by first | rfl | simp [Cond.onTables, Cond.keeps, Cond.steady])) hini)
  intro T hT X
  obtain ⟨mk, methM, cM, hnamed, hmethM, -, -, -, -, -, -, hsigM⟩ := Cond.codeWith_spec (hts _ kc)
  have hstatic : methM.isStatic = true := Cond.static_spec hnamed hmethM (hts _ ks)
  obtain ⟨kP, hkP, -⟩ := className_of_methodNamed hnamed
  have hinitP : kP.init = .initialized := Cond.initialized_spec (findClass_of_methodNamed hnamed) hkP hini
  have hlen : As.length = methM.sig.parameters.length := by
    have h2 := hd.2.2
    rw [hsigM] at h2
    exact hn.trans (Option.some.inj h2).symm
  obtain ⟨vm₁, X₁, hstep₁⟩ := X.invokestatic hx ho (hts _ kl) hnamed hmethM hstatic hkP hinitP ⟨hd.1, hd.2.1⟩ (g := g) hg (argsL := As) (rest := rest) hlen hstack (by rw [hb]; exact hdg)
  obtain ⟨v, B, X', hpost, hsteps⟩ := hK m meth c ⟨T.setVm vm₁, locs, cells, slots⟩ { g with stack := rest } (.invokestatic index) mk As.toArray X₁ hg (hsize.trans hml.symm) (by rw [hb]; exact hdg) hW (X₁.named hnamed) ⟨hf.1, hf.2, hp.2 (T.setVm vm₁) hT X₁.warmed⟩
  obtain ⟨U', l2, c2, s2⟩ := B
  obtain ⟨g', mk', t, L, e1, e2, hq, h1, hL, h2, h3⟩ := hpost
  dsimp only [Pt.U, Pt.locs, Pt.cells, Pt.slots] at X' e1 e2 h1 h2 h3 hsteps
  subst h1; subst h2; subst h3
  exact ⟨v, (T.setVm vm₁).calling g' mk' As.toArray, t, U', L, hT, X', hL, e1, e2, hq, fun target h => hstep₁ _ fun acts => by rw [doInvoke_state]; exact hsteps.trans h⟩
end XW
section XM
variable {p : Program} {l : Launch} {e : Env} {R : Room} {s : State} {m : MethodId} {args : Array Value} {below : List Frame} {meth : Method} {c : Code} {H : Heap} {locs : List Loc} {cells slots : Nat} {Q : State → Prop}
variable {cc : ByteArray} {pc : Nat} {ls : Array Slot} {rest st0 : List Value} {D : va_G} {cl : List vw_C} {A : Nat → Prop} {a : Nat} {tys : List (ClassId × FieldType)} {ws ws' : va_W} {av : Array Value}
theorem mu_free (hD : va_D A ws) (hS : va_S A s.heap H locs) (hA : ∀ q, s.heap.size ≤ q → A q) : ∀ q, va_A ws H.size q → A q := by
  intro q h
  rcases h with ⟨k, e, h⟩ | h
  · exact hD.2 k (q, e) h
  · exact hA q (Nat.le_trans hS.1 h)
/-- a call of a method that writes into the whole of the caller's world -/
theorem mu_callv (hr : va_Run p l e R s m args below meth c H locs cells slots 0 0 (F0 m pc ls st0) rest (va_Qv (fun _ : Unit => True) (mu_B D cl tys (va_A ws H.size) ws') (va_A ws H.size) av) (va_A ws H.size)) (hD : va_D A ws) (hS : va_S A s.heap H locs) (hA : ∀ q, s.heap.size ≤ q → A q)
    (kk : ∀ (H1 : Heap) (locs1 : List Loc), va_P D cl ws' H1 → va_D A ws' → va_S A s.heap H1 locs1 → W p l e R s m args below meth c H1 locs1 cells slots Q (F0 m (pc + 3) ls rest)) : W p l e R s m args below meth c H locs cells slots Q (F0 m pc ls st0) := by
  have hF := mu_free hD hS hA
  refine va_callv hr hS (fun q _ h => hF q h) hF (fun u t H1 locs1 ht hvm hw hB hz hk hS1 => ?_)
  obtain ⟨hP1, hK1, hD1⟩ := hB
  rw [ht] at hP1
  exact kk H1 locs1 hP1 (hD1.weaken (fun k q _ h => hF q.1 h)) hS1
theorem mu_calli {post : Int32 → Unit → Prop} (hr : va_Run p l e R s m args below meth c H locs cells slots 0 0 (F0 m pc ls st0) rest (va_Qi post (mu_B D cl tys (va_A ws H.size) ws') (va_A ws H.size) av) (va_A ws H.size)) (hD : va_D A ws) (hS : va_S A s.heap H locs) (hA : ∀ q, s.heap.size ≤ q → A q)
    (kk : ∀ (r : Int32) (H1 : Heap) (locs1 : List Loc), post r () → va_P D cl ws' H1 → va_D A ws' → va_S A s.heap H1 locs1 → W p l e R s m args below meth c H1 locs1 cells slots Q (F0 m (pc + 3) ls (.int r :: rest))) : W p l e R s m args below meth c H locs cells slots Q (F0 m pc ls st0) := by
  have hF := mu_free hD hS hA
  refine va_calli hr hS (fun q _ h => hF q h) hF (fun r u t H1 locs1 ht hvm hw hB hz hk hS1 => ?_)
  obtain ⟨hP1, hK1, hD1⟩ := hB
  rw [ht] at hP1
  exact kk r H1 locs1 hw hP1 (hD1.weaken (fun k q _ h => hF q.1 h)) hS1
/-- a new array of ints, of the class that is known -/
theorem xa_newI (hexec : p.tables.exec = Jvm.exec) (hb : c.code = cc) (harr : (Cond.arrayClass .int).before args s = true) (hK : va_K D cl tys s) (hP : va_P D cl ws H) (hD : va_D A ws) (hS : va_S A s.heap H locs) (hA : ∀ q, s.heap.size ≤ q → A q) (t0 : Nat) {cI : ClassId} (ht : tys[t0]? = some (cI, .int))
    {N' : Nat} (hN : N' < 2 ^ 27) (hcells : cells + 1 ≤ R.cells) (hslots : slots + N' ≤ R.slots) (hdg : decode cc pc = .ok (.newarray .int, 2))
    (kk : ∀ (q : Nat) (H1 : Heap), va_P D cl (ws ++ [(q, .inl (cI, N', .inl (fun _ => 0)))]) H1 → va_D A (ws ++ [(q, .inl (cI, N', .inl (fun _ => 0)))]) → va_S A s.heap H1 locs → W p l e R s m args below meth c H1 locs (cells + 1) (slots + N') Q (F0 m (pc + 2) ls (.ref q :: rest))) : W p l e R s m args below meth c H locs cells slots Q (F0 m pc ls (.int (nI N') :: rest)) := by
  refine va_newa hexec hb (atype := .int) harr (ty := .int) rfl hK hP hD hS hA (N' := N') (a0 := (N', .inl (fun _ => 0))) (fun cA => rfl) (nI_pos (by omega)) (nI_clamp (by omega)) (by show N' * 4 ≤ _; omega) hcells hslots hdg (fun q cA H1 hK1 hP1 hD1 hS1 => ?_)
  have e1 : s.vm.findClass ("[" ++ FieldType.int.toString) = some cI := (hK.2 t0 _ ht).2
  have e2 : s.vm.findClass ("[" ++ FieldType.int.toString) = some cA := (hK1.2 tys.length (cA, .int) (by simp)).2
  cases Option.some.inj (e1.symm.trans e2)
  exact kk q H1 hP1 hD1 hS1
theorem xa_newJ (hexec : p.tables.exec = Jvm.exec) (hb : c.code = cc) (harr : (Cond.arrayClass .long).before args s = true) (hK : va_K D cl tys s) (hP : va_P D cl ws H) (hD : va_D A ws) (hS : va_S A s.heap H locs) (hA : ∀ q, s.heap.size ≤ q → A q) (t0 : Nat) {cJ : ClassId} (ht : tys[t0]? = some (cJ, .long))
    {N' : Nat} (hN : N' < 2 ^ 26) (hcells : cells + 1 ≤ R.cells) (hslots : slots + N' ≤ R.slots) (hdg : decode cc pc = .ok (.newarray .long, 2))
    (kk : ∀ (q : Nat) (H1 : Heap), va_P D cl (ws ++ [(q, .inl (cJ, N', .inr (.inl (fun _ => 0))))]) H1 → va_D A (ws ++ [(q, .inl (cJ, N', .inr (.inl (fun _ => 0))))]) → va_S A s.heap H1 locs → W p l e R s m args below meth c H1 locs (cells + 1) (slots + N') Q (F0 m (pc + 2) ls (.ref q :: rest))) : W p l e R s m args below meth c H locs cells slots Q (F0 m pc ls (.int (nI N') :: rest)) := by
  refine va_newa hexec hb (atype := .long) harr (ty := .long) rfl hK hP hD hS hA (N' := N') (a0 := (N', .inr (.inl (fun _ => 0)))) (fun cA => rfl) (nI_pos (by omega)) (nI_clamp (by omega)) (by show N' * 8 ≤ _; omega) hcells hslots hdg (fun q cA H1 hK1 hP1 hD1 hS1 => ?_)
  have e1 : s.vm.findClass ("[" ++ FieldType.long.toString) = some cJ := (hK.2 t0 _ ht).2
  have e2 : s.vm.findClass ("[" ++ FieldType.long.toString) = some cA := (hK1.2 tys.length (cA, .long) (by simp)).2
  cases Option.some.inj (e1.symm.trans e2)
  exact kk q H1 hP1 hD1 hS1
end XM
end
section
theorem kw_0 : Cond.initialized "ClearingBooksLaw" ∈ wAll := wAll_in (k := 0) (by decide +kernel) (by decide)
theorem kw_1 : Cond.initialized "ClearingBooks" ∈ wAll := wAll_in (k := 1) (by decide +kernel) (by decide)
theorem kw_2 : Cond.initialized "ClearingBooksModel" ∈ wAll := wAll_in (k := 2) (by decide +kernel) (by decide)
theorem kw_3 : Cond.initialized "java/lang/Throwable" ∈ wAll := wAll_in (k := 3) (by decide +kernel) (by decide)
theorem kw_4 : Cond.initialized "java/lang/Exception" ∈ wAll := wAll_in (k := 4) (by decide +kernel) (by decide)
theorem kw_5 : Cond.initialized "java/lang/RuntimeException" ∈ wAll := wAll_in (k := 5) (by decide +kernel) (by decide)
theorem kw_6 : Cond.initialized "java/lang/IllegalArgumentException" ∈ wAll := wAll_in (k := 6) (by decide +kernel) (by decide)
theorem kw_7 : Cond.initialized "java/lang/IllegalStateException" ∈ wAll := wAll_in (k := 7) (by decide +kernel) (by decide)
theorem kw_8 : Cond.initialized "java/lang/Math" ∈ wAll := wAll_in (k := 8) (by decide +kernel) (by decide)
theorem kw_9 : Cond.classLink "ClearingBooksLaw" 8 "ClearingBooks" ∈ wAll := wAll_in (k := 9) (by decide +kernel) (by decide)
theorem kw_10 : Cond.instantiable "ClearingBooks" 12 ∈ wAll := wAll_in (k := 10) (by decide +kernel) (by decide)
theorem kw_11 : Cond.methodLink "ClearingBooksLaw" 41 y_B_init ∈ wAll := wAll_in (k := 11) (by decide +kernel) (by decide)
theorem kw_12 : Cond.instanceMethod y_B_init ∈ wAll := wAll_in (k := 12) (by decide +kernel) (by decide)
theorem kw_13 : Cond.code y_B_init prog_1_method_1_code 1 none ∈ wAll := wAll_in (k := 13) (by rfl) (by decide)
theorem kw_14 : Cond.methodLink "ClearingBooks" 3 ⟨"java/lang/Object", "<init>", "()V"⟩ ∈ wAll := wAll_in (k := 14) (by decide +kernel) (by decide)
theorem kw_15 : Cond.instanceMethod ⟨"java/lang/Object", "<init>", "()V"⟩ ∈ wAll := wAll_in (k := 15) (by decide +kernel) (by decide)
theorem kw_16 : Cond.code ⟨"java/lang/Object", "<init>", "()V"⟩ object_method_1_code 1 none ∈ wAll := wAll_in (k := 16) (by rfl) (by decide)
theorem kw_17 : Cond.fieldLink "ClearingBooks" 41 "ClearingBooks" "partyCount" "I" ∈ wAll := wAll_in (k := 17) (by decide +kernel) (by decide)
theorem kw_18 : Cond.fieldLink "ClearingBooks" 9 "ClearingBooks" "kinds" "[I" ∈ wAll := wAll_in (k := 18) (by decide +kernel) (by decide)
theorem kw_19 : Cond.fieldLink "ClearingBooks" 13 "ClearingBooks" "rates" "[I" ∈ wAll := wAll_in (k := 19) (by decide +kernel) (by decide)
theorem kw_20 : Cond.fieldLink "ClearingBooks" 16 "ClearingBooks" "positions" "[J" ∈ wAll := wAll_in (k := 20) (by decide +kernel) (by decide)
theorem kw_21 : Cond.fieldLink "ClearingBooks" 20 "ClearingBooks" "settled" "[J" ∈ wAll := wAll_in (k := 21) (by decide +kernel) (by decide)
theorem kw_22 : Cond.fieldLink "ClearingBooks" 23 "ClearingBooks" "batchCounts" "[I" ∈ wAll := wAll_in (k := 22) (by decide +kernel) (by decide)
theorem kw_23 : Cond.fieldLink "ClearingBooks" 26 "ClearingBooks" "batchSums" "[J" ∈ wAll := wAll_in (k := 23) (by decide +kernel) (by decide)
theorem kw_24 : Cond.fieldLink "ClearingBooks" 29 "ClearingBooks" "open" "[J" ∈ wAll := wAll_in (k := 24) (by decide +kernel) (by decide)
theorem kw_25 : Cond.fieldLink "ClearingBooks" 45 "ClearingBooks" "transferCount" "I" ∈ wAll := wAll_in (k := 25) (by decide +kernel) (by decide)
theorem kw_26 : Cond.fieldLink "ClearingBooks" 32 "ClearingBooks" "payers" "[I" ∈ wAll := wAll_in (k := 26) (by decide +kernel) (by decide)
theorem kw_27 : Cond.fieldLink "ClearingBooks" 35 "ClearingBooks" "payees" "[I" ∈ wAll := wAll_in (k := 27) (by decide +kernel) (by decide)
theorem kw_28 : Cond.fieldLink "ClearingBooks" 38 "ClearingBooks" "payments" "[J" ∈ wAll := wAll_in (k := 28) (by decide +kernel) (by decide)
theorem kw_29 : Cond.lays "ClearingBooks" "ClearingBooks" "partyCount" "I" ∈ wAll := wAll_in (k := 29) (by decide +kernel) (by decide)
theorem kw_31 : Cond.laysFinal "ClearingBooks" "ClearingBooks" "kinds" "[I" ∈ wAll := wAll_in (k := 31) (by decide +kernel) (by decide)
theorem kw_33 : Cond.laysFinal "ClearingBooks" "ClearingBooks" "rates" "[I" ∈ wAll := wAll_in (k := 33) (by decide +kernel) (by decide)
theorem kw_35 : Cond.laysFinal "ClearingBooks" "ClearingBooks" "positions" "[J" ∈ wAll := wAll_in (k := 35) (by decide +kernel) (by decide)
theorem kw_37 : Cond.laysFinal "ClearingBooks" "ClearingBooks" "settled" "[J" ∈ wAll := wAll_in (k := 37) (by decide +kernel) (by decide)
theorem kw_39 : Cond.laysFinal "ClearingBooks" "ClearingBooks" "batchCounts" "[I" ∈ wAll := wAll_in (k := 39) (by decide +kernel) (by decide)
theorem kw_41 : Cond.laysFinal "ClearingBooks" "ClearingBooks" "batchSums" "[J" ∈ wAll := wAll_in (k := 41) (by decide +kernel) (by decide)
theorem kw_43 : Cond.laysFinal "ClearingBooks" "ClearingBooks" "open" "[J" ∈ wAll := wAll_in (k := 43) (by decide +kernel) (by decide)
theorem kw_45 : Cond.lays "ClearingBooks" "ClearingBooks" "transferCount" "I" ∈ wAll := wAll_in (k := 45) (by decide +kernel) (by decide)
theorem kw_47 : Cond.laysFinal "ClearingBooks" "ClearingBooks" "payers" "[I" ∈ wAll := wAll_in (k := 47) (by decide +kernel) (by decide)
theorem kw_49 : Cond.laysFinal "ClearingBooks" "ClearingBooks" "payees" "[I" ∈ wAll := wAll_in (k := 49) (by decide +kernel) (by decide)
theorem kw_51 : Cond.laysFinal "ClearingBooks" "ClearingBooks" "payments" "[J" ∈ wAll := wAll_in (k := 51) (by decide +kernel) (by decide)
theorem kw_53 : Cond.superclass "ClearingBooks" "java/lang/Object" ∈ wAll := wAll_in (k := 53) (by decide +kernel) (by decide)
theorem kw_54 : Cond.arrayClass .int ∈ wAll := wAll_in (k := 54) (by decide +kernel) (by decide)
theorem kw_55 : Cond.arrayClass .long ∈ wAll := wAll_in (k := 55) (by decide +kernel) (by decide)
theorem kw_56 : Cond.methodLink "ClearingBooksLaw" 74 y_B_settle ∈ wAll := wAll_in (k := 56) (by decide +kernel) (by decide)
theorem kw_57 : Cond.instanceMethod y_B_settle ∈ wAll := wAll_in (k := 57) (by decide +kernel) (by decide)
theorem kw_58 : Cond.selects "ClearingBooks" y_B_settle y_B_settle ∈ wAll := wAll_in (k := 58) (by decide +kernel) (by decide)
theorem kw_59 : Cond.code y_B_settle prog_1_method_8_code 2 (some .int) ∈ wAll := wAll_in (k := 59) (by rfl) (by decide)
theorem kw_60 : Cond.methodLink "ClearingBooks" 76 y_B_makeTransfers ∈ wAll := wAll_in (k := 60) (by decide +kernel) (by decide)
theorem kw_62 : Cond.instanceMethod y_B_makeTransfers ∈ wAll := wAll_in (k := 62) (by decide +kernel) (by decide)
theorem kw_63 : Cond.code y_B_makeTransfers prog_1_method_19_code 2 none ∈ wAll := wAll_in (k := 63) (by rfl) (by decide)
theorem kw_64 : Cond.methodLink "ClearingBooks" 114 y_B_leastOpen ∈ wAll := wAll_in (k := 64) (by decide +kernel) (by decide)
theorem kw_66 : Cond.instanceMethod y_B_leastOpen ∈ wAll := wAll_in (k := 66) (by decide +kernel) (by decide)
theorem kw_67 : Cond.code y_B_leastOpen prog_1_method_21_code 3 (some .int) ∈ wAll := wAll_in (k := 67) (by rfl) (by decide)
theorem kw_68 : Cond.methodLink "ClearingBooks" 118 y_B_greatestOpen ∈ wAll := wAll_in (k := 68) (by decide +kernel) (by decide)
theorem kw_70 : Cond.instanceMethod y_B_greatestOpen ∈ wAll := wAll_in (k := 70) (by decide +kernel) (by decide)
theorem kw_71 : Cond.code y_B_greatestOpen prog_1_method_22_code 3 (some .int) ∈ wAll := wAll_in (k := 71) (by rfl) (by decide)
theorem kw_72 : Cond.methodLink "ClearingBooks" 121 y_B_makeTransfer ∈ wAll := wAll_in (k := 72) (by decide +kernel) (by decide)
theorem kw_74 : Cond.instanceMethod y_B_makeTransfer ∈ wAll := wAll_in (k := 74) (by decide +kernel) (by decide)
theorem kw_75 : Cond.code y_B_makeTransfer prog_1_method_20_code 5 none ∈ wAll := wAll_in (k := 75) (by rfl) (by decide)
theorem kw_76 : Cond.methodLink "ClearingBooks" 124 ⟨"java/lang/Math", "min", "(JJ)J"⟩ ∈ wAll := wAll_in (k := 76) (by decide +kernel) (by decide)
theorem kw_77 : Cond.static ⟨"java/lang/Math", "min", "(JJ)J"⟩ ∈ wAll := wAll_in (k := 77) (by decide +kernel) (by decide)
theorem kw_78 : Cond.code ⟨"java/lang/Math", "min", "(JJ)J"⟩ prog_7_method_70_code 4 (some .long) ∈ wAll := wAll_in (k := 78) (by rfl) (by decide)
theorem kw_79 : Cond.methodLink "ClearingBooksLaw" 84 y_B_parties ∈ wAll := wAll_in (k := 79) (by decide +kernel) (by decide)
theorem kw_80 : Cond.instanceMethod y_B_parties ∈ wAll := wAll_in (k := 80) (by decide +kernel) (by decide)
theorem kw_81 : Cond.selects "ClearingBooks" y_B_parties y_B_parties ∈ wAll := wAll_in (k := 81) (by decide +kernel) (by decide)
theorem kw_82 : Cond.code y_B_parties prog_1_method_11_code 1 (some .int) ∈ wAll := wAll_in (k := 82) (by rfl) (by decide)
theorem kw_83 : Cond.methodLink "ClearingBooksLaw" 88 y_B_audit ∈ wAll := wAll_in (k := 83) (by decide +kernel) (by decide)
theorem kw_84 : Cond.instanceMethod y_B_audit ∈ wAll := wAll_in (k := 84) (by decide +kernel) (by decide)
theorem kw_85 : Cond.selects "ClearingBooks" y_B_audit y_B_audit ∈ wAll := wAll_in (k := 85) (by decide +kernel) (by decide)
theorem kw_86 : Cond.code y_B_audit prog_1_method_12_code 3 (some .int) ∈ wAll := wAll_in (k := 86) (by rfl) (by decide)
theorem kw_87 : Cond.methodLink "ClearingBooks" 95 y_B_sumOf ∈ wAll := wAll_in (k := 87) (by decide +kernel) (by decide)
theorem kw_89 : Cond.instanceMethod y_B_sumOf ∈ wAll := wAll_in (k := 89) (by decide +kernel) (by decide)
theorem kw_90 : Cond.code y_B_sumOf prog_1_method_24_code 5 (some .long) ∈ wAll := wAll_in (k := 90) (by rfl) (by decide)
theorem kw_91 : Cond.methodLink "ClearingBooksLaw" 45 y_L_acquirer ∈ wAll := wAll_in (k := 91) (by decide +kernel) (by decide)
theorem kw_92 : Cond.static y_L_acquirer ∈ wAll := wAll_in (k := 92) (by decide +kernel) (by decide)
theorem kw_93 : Cond.codeWith y_L_acquirer method_3_code 4 (some .int) [(0, 9, 12, 13), (0, 9, 15, 15)] ∈ wAll := wAll_in (k := 93) (by rfl) (by decide)
theorem kw_94 : Cond.classLink "ClearingBooksLaw" 13 "java/lang/IllegalArgumentException" ∈ wAll := wAll_in (k := 94) (by decide +kernel) (by decide)
theorem kw_95 : Cond.classLink "ClearingBooksLaw" 15 "java/lang/IllegalStateException" ∈ wAll := wAll_in (k := 95) (by decide +kernel) (by decide)
theorem kw_96 : Cond.methodLink "ClearingBooksLaw" 7 y_B_acquirer ∈ wAll := wAll_in (k := 96) (by decide +kernel) (by decide)
theorem kw_97 : Cond.instanceMethod y_B_acquirer ∈ wAll := wAll_in (k := 97) (by decide +kernel) (by decide)
theorem kw_98 : Cond.selects "ClearingBooks" y_B_acquirer y_B_acquirer ∈ wAll := wAll_in (k := 98) (by decide +kernel) (by decide)
theorem kw_99 : Cond.code y_B_acquirer prog_1_method_2_code 2 (some .int) ∈ wAll := wAll_in (k := 99) (by rfl) (by decide)
theorem kw_100 : Cond.methodLink "ClearingBooks" 48 y_B_enter ∈ wAll := wAll_in (k := 100) (by decide +kernel) (by decide)
theorem kw_102 : Cond.instanceMethod y_B_enter ∈ wAll := wAll_in (k := 102) (by decide +kernel) (by decide)
theorem kw_103 : Cond.code y_B_enter prog_1_method_13_code 4 (some .int) ∈ wAll := wAll_in (k := 103) (by rfl) (by decide)
theorem kw_104 : Cond.classLink "ClearingBooks" 69 "java/lang/IllegalArgumentException" ∈ wAll := wAll_in (k := 104) (by decide +kernel) (by decide)
theorem kw_105 : Cond.instantiable "java/lang/IllegalArgumentException" 6 ∈ wAll := wAll_in (k := 105) (by decide +kernel) (by decide)
theorem kw_113 : Cond.selects "java/lang/IllegalArgumentException" ⟨"java/lang/Throwable", "fillInStackTrace", "(I)Ljava/lang/Throwable;"⟩ ⟨"java/lang/Throwable", "fillInStackTrace", "(I)Ljava/lang/Throwable;"⟩ ∈ wAll := wAll_in (k := 113) (by decide +kernel) (by decide)
theorem kw_114 : Cond.selects "java/lang/IllegalArgumentException" ⟨"java/lang/Throwable", "fillInStackTrace", "()Ljava/lang/Throwable;"⟩ ⟨"java/lang/Throwable", "fillInStackTrace", "()Ljava/lang/Throwable;"⟩ ∈ wAll := wAll_in (k := 114) (by decide +kernel) (by decide)
theorem kw_115 : Cond.lays "java/lang/IllegalArgumentException" "java/lang/Throwable" "cause" "Ljava/lang/Throwable;" ∈ wAll := wAll_in (k := 115) (by decide +kernel) (by decide)
theorem kw_116 : Cond.lays "java/lang/Throwable" "java/lang/Throwable" "cause" "Ljava/lang/Throwable;" ∈ wAll := wAll_in (k := 116) (by decide +kernel) (by decide)
theorem kw_117 : Cond.lays "java/lang/IllegalArgumentException" "java/lang/Throwable" "stackTrace" "[Ljava/lang/StackTraceElement;" ∈ wAll := wAll_in (k := 117) (by decide +kernel) (by decide)
theorem kw_118 : Cond.lays "java/lang/Throwable" "java/lang/Throwable" "stackTrace" "[Ljava/lang/StackTraceElement;" ∈ wAll := wAll_in (k := 118) (by decide +kernel) (by decide)
theorem kw_119 : Cond.lays "java/lang/IllegalArgumentException" "java/lang/Throwable" "suppressedExceptions" "Ljava/util/List;" ∈ wAll := wAll_in (k := 119) (by decide +kernel) (by decide)
theorem kw_120 : Cond.lays "java/lang/Throwable" "java/lang/Throwable" "suppressedExceptions" "Ljava/util/List;" ∈ wAll := wAll_in (k := 120) (by decide +kernel) (by decide)
theorem kw_121 : Cond.lays "java/lang/IllegalArgumentException" "java/lang/Throwable" "detailMessage" "Ljava/lang/String;" ∈ wAll := wAll_in (k := 121) (by decide +kernel) (by decide)
theorem kw_122 : Cond.lays "java/lang/Throwable" "java/lang/Throwable" "detailMessage" "Ljava/lang/String;" ∈ wAll := wAll_in (k := 122) (by decide +kernel) (by decide)
theorem kw_123 : Cond.lays "java/lang/IllegalArgumentException" "java/lang/Throwable" "backtrace" "Ljava/lang/Object;" ∈ wAll := wAll_in (k := 123) (by decide +kernel) (by decide)
theorem kw_124 : Cond.lays "java/lang/Throwable" "java/lang/Throwable" "backtrace" "Ljava/lang/Object;" ∈ wAll := wAll_in (k := 124) (by decide +kernel) (by decide)
theorem kw_125 : Cond.fieldLink "java/lang/Throwable" 198 "java/lang/Throwable" "backtrace" "Ljava/lang/Object;" ∈ wAll := wAll_in (k := 125) (by decide +kernel) (by decide)
theorem kw_126 : Cond.superclass "java/lang/Throwable" "java/lang/Object" ∈ wAll := wAll_in (k := 126) (by decide +kernel) (by decide)
theorem kw_127 : Cond.instanceMethod ⟨"java/lang/Throwable", "<init>", "()V"⟩ ∈ wAll := wAll_in (k := 127) (by decide +kernel) (by decide)
theorem kw_128 : Cond.code ⟨"java/lang/Throwable", "<init>", "()V"⟩ prog_10_method_1_code 1 none ∈ wAll := wAll_in (k := 128) (by rfl) (by decide)
theorem kw_129 : Cond.methodLink "java/lang/Throwable" 1 ⟨"java/lang/Object", "<init>", "()V"⟩ ∈ wAll := wAll_in (k := 129) (by decide +kernel) (by decide)
theorem kw_130 : Cond.fieldLink "java/lang/Throwable" 13 "java/lang/Throwable" "UNASSIGNED_STACK" "[Ljava/lang/StackTraceElement;" ∈ wAll := wAll_in (k := 130) (by decide +kernel) (by decide)
theorem kw_132 : Cond.fieldLink "java/lang/Throwable" 20 "java/lang/Throwable" "SUPPRESSED_SENTINEL" "Ljava/util/List;" ∈ wAll := wAll_in (k := 132) (by decide +kernel) (by decide)
theorem kw_134 : Cond.methodLink "java/lang/Throwable" 27 ⟨"java/lang/Throwable", "fillInStackTrace", "()Ljava/lang/Throwable;"⟩ ∈ wAll := wAll_in (k := 134) (by decide +kernel) (by decide)
theorem kw_135 : Cond.instanceMethod ⟨"java/lang/Throwable", "fillInStackTrace", "()Ljava/lang/Throwable;"⟩ ∈ wAll := wAll_in (k := 135) (by decide +kernel) (by decide)
theorem kw_137 : Cond.selects "java/lang/IllegalStateException" ⟨"java/lang/Throwable", "fillInStackTrace", "()Ljava/lang/Throwable;"⟩ ⟨"java/lang/Throwable", "fillInStackTrace", "()Ljava/lang/Throwable;"⟩ ∈ wAll := wAll_in (k := 137) (by decide +kernel) (by decide)
theorem kw_138 : Cond.codeSync ⟨"java/lang/Throwable", "fillInStackTrace", "()Ljava/lang/Throwable;"⟩ prog_10_method_18_code 1 (some (.object "java/lang/Throwable")) ∈ wAll := wAll_in (k := 138) (by rfl) (by decide)
theorem kw_139 : Cond.methodLink "java/lang/Throwable" 202 ⟨"java/lang/Throwable", "fillInStackTrace", "(I)Ljava/lang/Throwable;"⟩ ∈ wAll := wAll_in (k := 139) (by decide +kernel) (by decide)
theorem kw_141 : Cond.instanceMethod ⟨"java/lang/Throwable", "fillInStackTrace", "(I)Ljava/lang/Throwable;"⟩ ∈ wAll := wAll_in (k := 141) (by decide +kernel) (by decide)
theorem kw_142 : Cond.instantiable "java/lang/Throwable" 6 ∈ wAll := wAll_in (k := 142) (by decide +kernel) (by decide)
theorem kw_143 : Cond.native ⟨"java/lang/Throwable", "fillInStackTrace", "(I)Ljava/lang/Throwable;"⟩ ∈ wAll := wAll_in (k := 143) (by decide +kernel) (by decide)
theorem kw_145 : Cond.methodLink "ClearingBooks" 73 ⟨"java/lang/IllegalArgumentException", "<init>", "(Ljava/lang/String;)V"⟩ ∈ wAll := wAll_in (k := 145) (by decide +kernel) (by decide)
theorem kw_146 : Cond.instanceMethod ⟨"java/lang/IllegalArgumentException", "<init>", "(Ljava/lang/String;)V"⟩ ∈ wAll := wAll_in (k := 146) (by decide +kernel) (by decide)
theorem kw_147 : Cond.code ⟨"java/lang/IllegalArgumentException", "<init>", "(Ljava/lang/String;)V"⟩ prog_5_method_2_code 2 none ∈ wAll := wAll_in (k := 147) (by rfl) (by decide)
theorem kw_148 : Cond.methodLink "java/lang/IllegalArgumentException" 7 ⟨"java/lang/RuntimeException", "<init>", "(Ljava/lang/String;)V"⟩ ∈ wAll := wAll_in (k := 148) (by decide +kernel) (by decide)
theorem kw_149 : Cond.instanceMethod ⟨"java/lang/RuntimeException", "<init>", "(Ljava/lang/String;)V"⟩ ∈ wAll := wAll_in (k := 149) (by decide +kernel) (by decide)
theorem kw_150 : Cond.code ⟨"java/lang/RuntimeException", "<init>", "(Ljava/lang/String;)V"⟩ prog_8_method_2_code 2 none ∈ wAll := wAll_in (k := 150) (by rfl) (by decide)
theorem kw_151 : Cond.methodLink "java/lang/RuntimeException" 7 ⟨"java/lang/Exception", "<init>", "(Ljava/lang/String;)V"⟩ ∈ wAll := wAll_in (k := 151) (by decide +kernel) (by decide)
theorem kw_152 : Cond.instanceMethod ⟨"java/lang/Exception", "<init>", "(Ljava/lang/String;)V"⟩ ∈ wAll := wAll_in (k := 152) (by decide +kernel) (by decide)
theorem kw_153 : Cond.code ⟨"java/lang/Exception", "<init>", "(Ljava/lang/String;)V"⟩ prog_4_method_2_code 2 none ∈ wAll := wAll_in (k := 153) (by rfl) (by decide)
theorem kw_154 : Cond.methodLink "java/lang/Exception" 7 ⟨"java/lang/Throwable", "<init>", "(Ljava/lang/String;)V"⟩ ∈ wAll := wAll_in (k := 154) (by decide +kernel) (by decide)
theorem kw_155 : Cond.instanceMethod ⟨"java/lang/Throwable", "<init>", "(Ljava/lang/String;)V"⟩ ∈ wAll := wAll_in (k := 155) (by decide +kernel) (by decide)
theorem kw_156 : Cond.code ⟨"java/lang/Throwable", "<init>", "(Ljava/lang/String;)V"⟩ prog_10_method_2_code 2 none ∈ wAll := wAll_in (k := 156) (by rfl) (by decide)
theorem kw_157 : Cond.fieldLink "java/lang/Throwable" 198 "java/lang/Throwable" "backtrace" "Ljava/lang/Object;" ∈ wAll := wAll_in (k := 157) (by decide +kernel) (by decide)
theorem kw_158 : Cond.fieldLink "java/lang/Throwable" 31 "java/lang/Throwable" "detailMessage" "Ljava/lang/String;" ∈ wAll := wAll_in (k := 158) (by decide +kernel) (by decide)
theorem kw_159 : Cond.fieldLink "java/lang/Throwable" 7 "java/lang/Throwable" "cause" "Ljava/lang/Throwable;" ∈ wAll := wAll_in (k := 159) (by decide +kernel) (by decide)
theorem kw_160 : Cond.fieldLink "java/lang/Throwable" 17 "java/lang/Throwable" "stackTrace" "[Ljava/lang/StackTraceElement;" ∈ wAll := wAll_in (k := 160) (by decide +kernel) (by decide)
theorem kw_161 : Cond.fieldLink "java/lang/Throwable" 24 "java/lang/Throwable" "suppressedExceptions" "Ljava/util/List;" ∈ wAll := wAll_in (k := 161) (by decide +kernel) (by decide)
theorem kw_166 : Cond.lays "java/lang/IllegalArgumentException" "java/lang/Throwable" "depth" "I" ∈ wAll := wAll_in (k := 166) (by decide +kernel) (by decide)
theorem kw_169 : Cond.superclass "java/lang/IllegalArgumentException" "java/lang/RuntimeException" ∈ wAll := wAll_in (k := 169) (by decide +kernel) (by decide)
theorem kw_170 : Cond.arrayClass .byte ∈ wAll := wAll_in (k := 170) (by decide +kernel) (by decide)
theorem kw_171 : Cond.classLink "ClearingBooks" 101 "java/lang/IllegalStateException" ∈ wAll := wAll_in (k := 171) (by decide +kernel) (by decide)
theorem kw_172 : Cond.instantiable "java/lang/IllegalStateException" 6 ∈ wAll := wAll_in (k := 172) (by decide +kernel) (by decide)
theorem kw_174 : Cond.selects "java/lang/IllegalStateException" ⟨"java/lang/Throwable", "fillInStackTrace", "(I)Ljava/lang/Throwable;"⟩ ⟨"java/lang/Throwable", "fillInStackTrace", "(I)Ljava/lang/Throwable;"⟩ ∈ wAll := wAll_in (k := 174) (by decide +kernel) (by decide)
theorem kw_175 : Cond.lays "java/lang/IllegalStateException" "java/lang/Throwable" "cause" "Ljava/lang/Throwable;" ∈ wAll := wAll_in (k := 175) (by decide +kernel) (by decide)
theorem kw_176 : Cond.lays "java/lang/IllegalStateException" "java/lang/Throwable" "stackTrace" "[Ljava/lang/StackTraceElement;" ∈ wAll := wAll_in (k := 176) (by decide +kernel) (by decide)
theorem kw_177 : Cond.lays "java/lang/IllegalStateException" "java/lang/Throwable" "suppressedExceptions" "Ljava/util/List;" ∈ wAll := wAll_in (k := 177) (by decide +kernel) (by decide)
theorem kw_178 : Cond.lays "java/lang/IllegalStateException" "java/lang/Throwable" "detailMessage" "Ljava/lang/String;" ∈ wAll := wAll_in (k := 178) (by decide +kernel) (by decide)
theorem kw_179 : Cond.lays "java/lang/IllegalStateException" "java/lang/Throwable" "backtrace" "Ljava/lang/Object;" ∈ wAll := wAll_in (k := 179) (by decide +kernel) (by decide)
theorem kw_181 : Cond.methodLink "ClearingBooks" 105 ⟨"java/lang/IllegalStateException", "<init>", "(Ljava/lang/String;)V"⟩ ∈ wAll := wAll_in (k := 181) (by decide +kernel) (by decide)
theorem kw_182 : Cond.instanceMethod ⟨"java/lang/IllegalStateException", "<init>", "(Ljava/lang/String;)V"⟩ ∈ wAll := wAll_in (k := 182) (by decide +kernel) (by decide)
theorem kw_183 : Cond.code ⟨"java/lang/IllegalStateException", "<init>", "(Ljava/lang/String;)V"⟩ prog_6_method_2_code 2 none ∈ wAll := wAll_in (k := 183) (by rfl) (by decide)
theorem kw_184 : Cond.methodLink "java/lang/IllegalStateException" 7 ⟨"java/lang/RuntimeException", "<init>", "(Ljava/lang/String;)V"⟩ ∈ wAll := wAll_in (k := 184) (by decide +kernel) (by decide)
theorem kw_185 : Cond.lays "java/lang/IllegalStateException" "java/lang/Throwable" "depth" "I" ∈ wAll := wAll_in (k := 185) (by decide +kernel) (by decide)
theorem kw_186 : Cond.superclass "java/lang/IllegalStateException" "java/lang/RuntimeException" ∈ wAll := wAll_in (k := 186) (by decide +kernel) (by decide)
theorem kw_187 : Cond.methodLink "ClearingBooksLaw" 55 y_L_issuer ∈ wAll := wAll_in (k := 187) (by decide +kernel) (by decide)
theorem kw_188 : Cond.static y_L_issuer ∈ wAll := wAll_in (k := 188) (by decide +kernel) (by decide)
theorem kw_189 : Cond.codeWith y_L_issuer method_4_code 4 (some .int) [(0, 9, 12, 13), (0, 9, 15, 15)] ∈ wAll := wAll_in (k := 189) (by rfl) (by decide)
theorem kw_190 : Cond.methodLink "ClearingBooksLaw" 17 y_B_issuer ∈ wAll := wAll_in (k := 190) (by decide +kernel) (by decide)
theorem kw_191 : Cond.instanceMethod y_B_issuer ∈ wAll := wAll_in (k := 191) (by decide +kernel) (by decide)
theorem kw_192 : Cond.selects "ClearingBooks" y_B_issuer y_B_issuer ∈ wAll := wAll_in (k := 192) (by decide +kernel) (by decide)
theorem kw_193 : Cond.code y_B_issuer prog_1_method_3_code 2 (some .int) ∈ wAll := wAll_in (k := 193) (by rfl) (by decide)
theorem kw_194 : Cond.methodLink "ClearingBooksLaw" 60 y_L_clear ∈ wAll := wAll_in (k := 194) (by decide +kernel) (by decide)
theorem kw_195 : Cond.static y_L_clear ∈ wAll := wAll_in (k := 195) (by decide +kernel) (by decide)
theorem kw_196 : Cond.codeWith y_L_clear method_5_code 7 (some .int) [(0, 11, 14, 13)] ∈ wAll := wAll_in (k := 196) (by rfl) (by decide)
theorem kw_197 : Cond.methodLink "ClearingBooksLaw" 20 y_B_clear ∈ wAll := wAll_in (k := 197) (by decide +kernel) (by decide)
theorem kw_198 : Cond.instanceMethod y_B_clear ∈ wAll := wAll_in (k := 198) (by decide +kernel) (by decide)
theorem kw_199 : Cond.selects "ClearingBooks" y_B_clear y_B_clear ∈ wAll := wAll_in (k := 199) (by decide +kernel) (by decide)
theorem kw_200 : Cond.code y_B_clear prog_1_method_4_code 9 (some .long) ∈ wAll := wAll_in (k := 200) (by rfl) (by decide)
theorem kw_201 : Cond.methodLink "ClearingBooks" 52 y_B_requireKind ∈ wAll := wAll_in (k := 201) (by decide +kernel) (by decide)
theorem kw_203 : Cond.instanceMethod y_B_requireKind ∈ wAll := wAll_in (k := 203) (by decide +kernel) (by decide)
theorem kw_204 : Cond.code y_B_requireKind prog_1_method_15_code 3 none ∈ wAll := wAll_in (k := 204) (by rfl) (by decide)
theorem kw_205 : Cond.methodLink "ClearingBooks" 83 y_B_isParty ∈ wAll := wAll_in (k := 205) (by decide +kernel) (by decide)
theorem kw_207 : Cond.instanceMethod y_B_isParty ∈ wAll := wAll_in (k := 207) (by decide +kernel) (by decide)
theorem kw_208 : Cond.code y_B_isParty prog_1_method_14_code 2 (some .boolean) ∈ wAll := wAll_in (k := 208) (by rfl) (by decide)
theorem kw_210 : Cond.methodLink "ClearingBooks" 56 y_B_requireAmount ∈ wAll := wAll_in (k := 210) (by decide +kernel) (by decide)
theorem kw_211 : Cond.static y_B_requireAmount ∈ wAll := wAll_in (k := 211) (by decide +kernel) (by decide)
theorem kw_212 : Cond.code y_B_requireAmount prog_1_method_16_code 4 none ∈ wAll := wAll_in (k := 212) (by rfl) (by decide)
theorem kw_213 : Cond.constantLong "ClearingBooks" 108 (1000000000000 : Int64) ∈ wAll := wAll_in (k := 213) (by decide +kernel) (by decide)
theorem kw_215 : Cond.methodLink "ClearingBooks" 60 y_B_partRoundedUp ∈ wAll := wAll_in (k := 215) (by decide +kernel) (by decide)
theorem kw_216 : Cond.static y_B_partRoundedUp ∈ wAll := wAll_in (k := 216) (by decide +kernel) (by decide)
theorem kw_217 : Cond.code y_B_partRoundedUp prog_1_method_18_code 3 (some .long) ∈ wAll := wAll_in (k := 217) (by rfl) (by decide)
theorem kw_218 : Cond.constantLong "ClearingBooks" 112 (10000 : Int64) ∈ wAll := wAll_in (k := 218) (by decide +kernel) (by decide)
theorem kw_219 : Cond.methodLink "ClearingBooks" 64 y_B_partRoundedDown ∈ wAll := wAll_in (k := 219) (by decide +kernel) (by decide)
theorem kw_220 : Cond.static y_B_partRoundedDown ∈ wAll := wAll_in (k := 220) (by decide +kernel) (by decide)
theorem kw_221 : Cond.code y_B_partRoundedDown prog_1_method_17_code 3 (some .long) ∈ wAll := wAll_in (k := 221) (by rfl) (by decide)
theorem kw_222 : Cond.methodLink "ClearingBooksLaw" 64 y_L_back ∈ wAll := wAll_in (k := 222) (by decide +kernel) (by decide)
theorem kw_223 : Cond.static y_L_back ∈ wAll := wAll_in (k := 223) (by decide +kernel) (by decide)
theorem kw_224 : Cond.codeWith y_L_back method_6_code 7 (some .int) [(0, 11, 14, 13)] ∈ wAll := wAll_in (k := 224) (by rfl) (by decide)
theorem kw_225 : Cond.methodLink "ClearingBooksLaw" 24 y_B_back ∈ wAll := wAll_in (k := 225) (by decide +kernel) (by decide)
theorem kw_226 : Cond.instanceMethod y_B_back ∈ wAll := wAll_in (k := 226) (by decide +kernel) (by decide)
theorem kw_227 : Cond.selects "ClearingBooks" y_B_back y_B_back ∈ wAll := wAll_in (k := 227) (by decide +kernel) (by decide)
theorem kw_228 : Cond.code y_B_back prog_1_method_5_code 5 (some .long) ∈ wAll := wAll_in (k := 228) (by rfl) (by decide)
theorem kw_229 : Cond.constantLong "ClearingBooks" 67 (-1000000000000 : Int64) ∈ wAll := wAll_in (k := 229) (by decide +kernel) (by decide)
theorem kw_230 : Cond.methodLink "ClearingBooksLaw" 67 y_L_reconcile ∈ wAll := wAll_in (k := 230) (by decide +kernel) (by decide)
theorem kw_231 : Cond.static y_L_reconcile ∈ wAll := wAll_in (k := 231) (by decide +kernel) (by decide)
theorem kw_232 : Cond.codeWith y_L_reconcile method_7_code 7 (some .int) [(0, 19, 22, 13)] ∈ wAll := wAll_in (k := 232) (by rfl) (by decide)
theorem kw_233 : Cond.methodLink "ClearingBooksLaw" 27 y_B_reconcile ∈ wAll := wAll_in (k := 233) (by decide +kernel) (by decide)
theorem kw_234 : Cond.instanceMethod y_B_reconcile ∈ wAll := wAll_in (k := 234) (by decide +kernel) (by decide)
theorem kw_235 : Cond.selects "ClearingBooks" y_B_reconcile y_B_reconcile ∈ wAll := wAll_in (k := 235) (by decide +kernel) (by decide)
theorem kw_236 : Cond.code y_B_reconcile prog_1_method_6_code 5 (some .boolean) ∈ wAll := wAll_in (k := 236) (by rfl) (by decide)
theorem kw_237 : Cond.methodLink "ClearingBooksLaw" 70 y_L_batch ∈ wAll := wAll_in (k := 237) (by decide +kernel) (by decide)
theorem kw_238 : Cond.static y_L_batch ∈ wAll := wAll_in (k := 238) (by decide +kernel) (by decide)
theorem kw_239 : Cond.codeWith y_L_batch method_8_code 5 (some .int) [(0, 9, 12, 13)] ∈ wAll := wAll_in (k := 239) (by rfl) (by decide)
theorem kw_240 : Cond.methodLink "ClearingBooksLaw" 31 y_B_batch ∈ wAll := wAll_in (k := 240) (by decide +kernel) (by decide)
theorem kw_241 : Cond.instanceMethod y_B_batch ∈ wAll := wAll_in (k := 241) (by decide +kernel) (by decide)
theorem kw_242 : Cond.selects "ClearingBooks" y_B_batch y_B_batch ∈ wAll := wAll_in (k := 242) (by decide +kernel) (by decide)
theorem kw_243 : Cond.code y_B_batch prog_1_method_7_code 3 (some .long) ∈ wAll := wAll_in (k := 243) (by rfl) (by decide)
theorem kw_245 : Cond.methodLink "ClearingBooksLaw" 78 y_L_transfer ∈ wAll := wAll_in (k := 245) (by decide +kernel) (by decide)
theorem kw_246 : Cond.static y_L_transfer ∈ wAll := wAll_in (k := 246) (by decide +kernel) (by decide)
theorem kw_247 : Cond.codeWith y_L_transfer method_9_code 5 (some .int) [(0, 9, 12, 13)] ∈ wAll := wAll_in (k := 247) (by rfl) (by decide)
theorem kw_248 : Cond.methodLink "ClearingBooksLaw" 35 y_B_transfer ∈ wAll := wAll_in (k := 248) (by decide +kernel) (by decide)
theorem kw_249 : Cond.instanceMethod y_B_transfer ∈ wAll := wAll_in (k := 249) (by decide +kernel) (by decide)
theorem kw_250 : Cond.selects "ClearingBooks" y_B_transfer y_B_transfer ∈ wAll := wAll_in (k := 250) (by decide +kernel) (by decide)
theorem kw_251 : Cond.code y_B_transfer prog_1_method_9_code 3 (some .long) ∈ wAll := wAll_in (k := 251) (by rfl) (by decide)
theorem kw_254 : Cond.methodLink "ClearingBooksLaw" 81 y_L_party ∈ wAll := wAll_in (k := 254) (by decide +kernel) (by decide)
theorem kw_255 : Cond.static y_L_party ∈ wAll := wAll_in (k := 255) (by decide +kernel) (by decide)
theorem kw_256 : Cond.codeWith y_L_party method_10_code 5 (some .int) [(0, 9, 12, 13)] ∈ wAll := wAll_in (k := 256) (by rfl) (by decide)
theorem kw_257 : Cond.methodLink "ClearingBooksLaw" 38 y_B_party ∈ wAll := wAll_in (k := 257) (by decide +kernel) (by decide)
theorem kw_258 : Cond.instanceMethod y_B_party ∈ wAll := wAll_in (k := 258) (by decide +kernel) (by decide)
theorem kw_259 : Cond.selects "ClearingBooks" y_B_party y_B_party ∈ wAll := wAll_in (k := 259) (by decide +kernel) (by decide)
theorem kw_260 : Cond.code y_B_party prog_1_method_10_code 3 (some .long) ∈ wAll := wAll_in (k := 260) (by rfl) (by decide)
theorem kw_262 : Cond.methodLink "ClearingBooks" 89 y_B_placeOf ∈ wAll := wAll_in (k := 262) (by decide +kernel) (by decide)
theorem kw_264 : Cond.instanceMethod y_B_placeOf ∈ wAll := wAll_in (k := 264) (by decide +kernel) (by decide)
theorem kw_265 : Cond.code y_B_placeOf prog_1_method_23_code 5 (some .int) ∈ wAll := wAll_in (k := 265) (by rfl) (by decide)
theorem kw_267 : Cond.classLink "ClearingBooksLaw" 42 "ClearingBooksModel" ∈ wAll := wAll_in (k := 267) (by decide +kernel) (by decide)
theorem kw_268 : Cond.instantiable "ClearingBooksModel" 13 ∈ wAll := wAll_in (k := 268) (by decide +kernel) (by decide)
theorem kw_269 : Cond.methodLink "ClearingBooksLaw" 44 y_M_init ∈ wAll := wAll_in (k := 269) (by decide +kernel) (by decide)
theorem kw_270 : Cond.instanceMethod y_M_init ∈ wAll := wAll_in (k := 270) (by decide +kernel) (by decide)
theorem kw_271 : Cond.code y_M_init prog_3_method_1_code 1 none ∈ wAll := wAll_in (k := 271) (by rfl) (by decide)
theorem kw_272 : Cond.methodLink "ClearingBooksModel" 1 ⟨"java/lang/Object", "<init>", "()V"⟩ ∈ wAll := wAll_in (k := 272) (by decide +kernel) (by decide)
theorem kw_273 : Cond.fieldLink "ClearingBooksModel" 45 "ClearingBooksModel" "code" "I" ∈ wAll := wAll_in (k := 273) (by decide +kernel) (by decide)
theorem kw_274 : Cond.fieldLink "ClearingBooksModel" 7 "ClearingBooksModel" "parties" "I" ∈ wAll := wAll_in (k := 274) (by decide +kernel) (by decide)
theorem kw_275 : Cond.fieldLink "ClearingBooksModel" 13 "ClearingBooksModel" "kind" "[I" ∈ wAll := wAll_in (k := 275) (by decide +kernel) (by decide)
theorem kw_276 : Cond.fieldLink "ClearingBooksModel" 17 "ClearingBooksModel" "rate" "[I" ∈ wAll := wAll_in (k := 276) (by decide +kernel) (by decide)
theorem kw_277 : Cond.fieldLink "ClearingBooksModel" 20 "ClearingBooksModel" "position" "[J" ∈ wAll := wAll_in (k := 277) (by decide +kernel) (by decide)
theorem kw_278 : Cond.fieldLink "ClearingBooksModel" 24 "ClearingBooksModel" "settled" "[J" ∈ wAll := wAll_in (k := 278) (by decide +kernel) (by decide)
theorem kw_279 : Cond.fieldLink "ClearingBooksModel" 27 "ClearingBooksModel" "count" "[I" ∈ wAll := wAll_in (k := 279) (by decide +kernel) (by decide)
theorem kw_280 : Cond.fieldLink "ClearingBooksModel" 30 "ClearingBooksModel" "sum" "[J" ∈ wAll := wAll_in (k := 280) (by decide +kernel) (by decide)
theorem kw_281 : Cond.fieldLink "ClearingBooksModel" 33 "ClearingBooksModel" "open" "[J" ∈ wAll := wAll_in (k := 281) (by decide +kernel) (by decide)
theorem kw_282 : Cond.fieldLink "ClearingBooksModel" 66 "ClearingBooksModel" "transfers" "I" ∈ wAll := wAll_in (k := 282) (by decide +kernel) (by decide)
theorem kw_283 : Cond.fieldLink "ClearingBooksModel" 36 "ClearingBooksModel" "payer" "[I" ∈ wAll := wAll_in (k := 283) (by decide +kernel) (by decide)
theorem kw_284 : Cond.fieldLink "ClearingBooksModel" 39 "ClearingBooksModel" "payee" "[I" ∈ wAll := wAll_in (k := 284) (by decide +kernel) (by decide)
theorem kw_285 : Cond.fieldLink "ClearingBooksModel" 42 "ClearingBooksModel" "paid" "[J" ∈ wAll := wAll_in (k := 285) (by decide +kernel) (by decide)
theorem kw_286 : Cond.lays "ClearingBooksModel" "ClearingBooksModel" "code" "I" ∈ wAll := wAll_in (k := 286) (by decide +kernel) (by decide)
theorem kw_288 : Cond.lays "ClearingBooksModel" "ClearingBooksModel" "parties" "I" ∈ wAll := wAll_in (k := 288) (by decide +kernel) (by decide)
theorem kw_290 : Cond.laysFinal "ClearingBooksModel" "ClearingBooksModel" "kind" "[I" ∈ wAll := wAll_in (k := 290) (by decide +kernel) (by decide)
theorem kw_292 : Cond.laysFinal "ClearingBooksModel" "ClearingBooksModel" "rate" "[I" ∈ wAll := wAll_in (k := 292) (by decide +kernel) (by decide)
theorem kw_294 : Cond.laysFinal "ClearingBooksModel" "ClearingBooksModel" "position" "[J" ∈ wAll := wAll_in (k := 294) (by decide +kernel) (by decide)
theorem kw_296 : Cond.laysFinal "ClearingBooksModel" "ClearingBooksModel" "settled" "[J" ∈ wAll := wAll_in (k := 296) (by decide +kernel) (by decide)
theorem kw_298 : Cond.laysFinal "ClearingBooksModel" "ClearingBooksModel" "count" "[I" ∈ wAll := wAll_in (k := 298) (by decide +kernel) (by decide)
theorem kw_300 : Cond.laysFinal "ClearingBooksModel" "ClearingBooksModel" "sum" "[J" ∈ wAll := wAll_in (k := 300) (by decide +kernel) (by decide)
theorem kw_302 : Cond.laysFinal "ClearingBooksModel" "ClearingBooksModel" "open" "[J" ∈ wAll := wAll_in (k := 302) (by decide +kernel) (by decide)
theorem kw_304 : Cond.lays "ClearingBooksModel" "ClearingBooksModel" "transfers" "I" ∈ wAll := wAll_in (k := 304) (by decide +kernel) (by decide)
theorem kw_306 : Cond.laysFinal "ClearingBooksModel" "ClearingBooksModel" "payer" "[I" ∈ wAll := wAll_in (k := 306) (by decide +kernel) (by decide)
theorem kw_308 : Cond.laysFinal "ClearingBooksModel" "ClearingBooksModel" "payee" "[I" ∈ wAll := wAll_in (k := 308) (by decide +kernel) (by decide)
theorem kw_310 : Cond.laysFinal "ClearingBooksModel" "ClearingBooksModel" "paid" "[J" ∈ wAll := wAll_in (k := 310) (by decide +kernel) (by decide)
theorem kw_312 : Cond.superclass "ClearingBooksModel" "java/lang/Object" ∈ wAll := wAll_in (k := 312) (by decide +kernel) (by decide)
theorem kw_313 : Cond.methodLink "ClearingBooksLaw" 51 y_M_thrown ∈ wAll := wAll_in (k := 313) (by decide +kernel) (by decide)
theorem kw_314 : Cond.instanceMethod y_M_thrown ∈ wAll := wAll_in (k := 314) (by decide +kernel) (by decide)
theorem kw_315 : Cond.selects "ClearingBooksModel" y_M_thrown y_M_thrown ∈ wAll := wAll_in (k := 315) (by decide +kernel) (by decide)
theorem kw_316 : Cond.code y_M_thrown prog_3_method_2_code 1 (some .int) ∈ wAll := wAll_in (k := 316) (by rfl) (by decide)
theorem kw_317 : Cond.methodLink "ClearingBooksLaw" 50 y_M_acquirer ∈ wAll := wAll_in (k := 317) (by decide +kernel) (by decide)
theorem kw_318 : Cond.instanceMethod y_M_acquirer ∈ wAll := wAll_in (k := 318) (by decide +kernel) (by decide)
theorem kw_319 : Cond.selects "ClearingBooksModel" y_M_acquirer y_M_acquirer ∈ wAll := wAll_in (k := 319) (by decide +kernel) (by decide)
theorem kw_320 : Cond.code y_M_acquirer prog_3_method_6_code 2 (some .int) ∈ wAll := wAll_in (k := 320) (by rfl) (by decide)
theorem kw_321 : Cond.methodLink "ClearingBooksModel" 48 y_M_come ∈ wAll := wAll_in (k := 321) (by decide +kernel) (by decide)
theorem kw_323 : Cond.instanceMethod y_M_come ∈ wAll := wAll_in (k := 323) (by decide +kernel) (by decide)
theorem kw_324 : Cond.code y_M_come prog_3_method_5_code 3 (some .int) ∈ wAll := wAll_in (k := 324) (by rfl) (by decide)
theorem kw_325 : Cond.methodLink "ClearingBooksLaw" 57 y_M_issuer ∈ wAll := wAll_in (k := 325) (by decide +kernel) (by decide)
theorem kw_326 : Cond.instanceMethod y_M_issuer ∈ wAll := wAll_in (k := 326) (by decide +kernel) (by decide)
theorem kw_327 : Cond.selects "ClearingBooksModel" y_M_issuer y_M_issuer ∈ wAll := wAll_in (k := 327) (by decide +kernel) (by decide)
theorem kw_328 : Cond.code y_M_issuer prog_3_method_7_code 2 (some .int) ∈ wAll := wAll_in (k := 328) (by rfl) (by decide)
theorem kw_329 : Cond.methodLink "ClearingBooksLaw" 63 y_M_clear ∈ wAll := wAll_in (k := 329) (by decide +kernel) (by decide)
theorem kw_330 : Cond.instanceMethod y_M_clear ∈ wAll := wAll_in (k := 330) (by decide +kernel) (by decide)
theorem kw_331 : Cond.selects "ClearingBooksModel" y_M_clear y_M_clear ∈ wAll := wAll_in (k := 331) (by decide +kernel) (by decide)
theorem kw_332 : Cond.code y_M_clear prog_3_method_8_code 11 (some .long) ∈ wAll := wAll_in (k := 332) (by rfl) (by decide)
theorem kw_333 : Cond.methodLink "ClearingBooksModel" 52 y_M_is ∈ wAll := wAll_in (k := 333) (by decide +kernel) (by decide)
theorem kw_335 : Cond.instanceMethod y_M_is ∈ wAll := wAll_in (k := 335) (by decide +kernel) (by decide)
theorem kw_336 : Cond.code y_M_is prog_3_method_4_code 3 (some .boolean) ∈ wAll := wAll_in (k := 336) (by rfl) (by decide)
theorem kw_337 : Cond.constantLong "ClearingBooksModel" 56 (1000000000000 : Int64) ∈ wAll := wAll_in (k := 337) (by decide +kernel) (by decide)
theorem kw_338 : Cond.methodLink "ClearingBooksModel" 58 y_M_goes ∈ wAll := wAll_in (k := 338) (by decide +kernel) (by decide)
theorem kw_340 : Cond.instanceMethod y_M_goes ∈ wAll := wAll_in (k := 340) (by decide +kernel) (by decide)
theorem kw_341 : Cond.code y_M_goes prog_3_method_3_code 2 (some .boolean) ∈ wAll := wAll_in (k := 341) (by rfl) (by decide)
theorem kw_342 : Cond.constantLong "ClearingBooksModel" 62 (10000 : Int64) ∈ wAll := wAll_in (k := 342) (by decide +kernel) (by decide)
theorem kw_343 : Cond.methodLink "ClearingBooksLaw" 66 y_M_back ∈ wAll := wAll_in (k := 343) (by decide +kernel) (by decide)
theorem kw_344 : Cond.instanceMethod y_M_back ∈ wAll := wAll_in (k := 344) (by decide +kernel) (by decide)
theorem kw_345 : Cond.selects "ClearingBooksModel" y_M_back y_M_back ∈ wAll := wAll_in (k := 345) (by decide +kernel) (by decide)
theorem kw_346 : Cond.code y_M_back prog_3_method_9_code 5 (some .long) ∈ wAll := wAll_in (k := 346) (by rfl) (by decide)
theorem kw_347 : Cond.constantLong "ClearingBooksModel" 64 (-1000000000000 : Int64) ∈ wAll := wAll_in (k := 347) (by decide +kernel) (by decide)
theorem kw_348 : Cond.methodLink "ClearingBooksLaw" 69 y_M_reconcile ∈ wAll := wAll_in (k := 348) (by decide +kernel) (by decide)
theorem kw_349 : Cond.instanceMethod y_M_reconcile ∈ wAll := wAll_in (k := 349) (by decide +kernel) (by decide)
theorem kw_350 : Cond.selects "ClearingBooksModel" y_M_reconcile y_M_reconcile ∈ wAll := wAll_in (k := 350) (by decide +kernel) (by decide)
theorem kw_351 : Cond.code y_M_reconcile prog_3_method_10_code 5 (some .boolean) ∈ wAll := wAll_in (k := 351) (by rfl) (by decide)
theorem kw_352 : Cond.methodLink "ClearingBooksLaw" 73 y_M_batch ∈ wAll := wAll_in (k := 352) (by decide +kernel) (by decide)
theorem kw_353 : Cond.instanceMethod y_M_batch ∈ wAll := wAll_in (k := 353) (by decide +kernel) (by decide)
theorem kw_354 : Cond.selects "ClearingBooksModel" y_M_batch y_M_batch ∈ wAll := wAll_in (k := 354) (by decide +kernel) (by decide)
theorem kw_355 : Cond.code y_M_batch prog_3_method_11_code 3 (some .long) ∈ wAll := wAll_in (k := 355) (by rfl) (by decide)
theorem kw_356 : Cond.methodLink "ClearingBooksLaw" 77 y_M_settle ∈ wAll := wAll_in (k := 356) (by decide +kernel) (by decide)
theorem kw_357 : Cond.instanceMethod y_M_settle ∈ wAll := wAll_in (k := 357) (by decide +kernel) (by decide)
theorem kw_358 : Cond.selects "ClearingBooksModel" y_M_settle y_M_settle ∈ wAll := wAll_in (k := 358) (by decide +kernel) (by decide)
theorem kw_359 : Cond.code y_M_settle prog_3_method_12_code 6 (some .int) ∈ wAll := wAll_in (k := 359) (by rfl) (by decide)
theorem kw_360 : Cond.methodLink "ClearingBooksLaw" 80 y_M_transfer ∈ wAll := wAll_in (k := 360) (by decide +kernel) (by decide)
theorem kw_361 : Cond.instanceMethod y_M_transfer ∈ wAll := wAll_in (k := 361) (by decide +kernel) (by decide)
theorem kw_362 : Cond.selects "ClearingBooksModel" y_M_transfer y_M_transfer ∈ wAll := wAll_in (k := 362) (by decide +kernel) (by decide)
theorem kw_363 : Cond.code y_M_transfer prog_3_method_13_code 3 (some .long) ∈ wAll := wAll_in (k := 363) (by rfl) (by decide)
theorem kw_364 : Cond.methodLink "ClearingBooksLaw" 83 y_M_party ∈ wAll := wAll_in (k := 364) (by decide +kernel) (by decide)
theorem kw_365 : Cond.instanceMethod y_M_party ∈ wAll := wAll_in (k := 365) (by decide +kernel) (by decide)
theorem kw_366 : Cond.selects "ClearingBooksModel" y_M_party y_M_party ∈ wAll := wAll_in (k := 366) (by decide +kernel) (by decide)
theorem kw_367 : Cond.code y_M_party prog_3_method_14_code 5 (some .long) ∈ wAll := wAll_in (k := 367) (by rfl) (by decide)
theorem kw_368 : Cond.methodLink "ClearingBooksLaw" 87 y_M_parties ∈ wAll := wAll_in (k := 368) (by decide +kernel) (by decide)
theorem kw_369 : Cond.instanceMethod y_M_parties ∈ wAll := wAll_in (k := 369) (by decide +kernel) (by decide)
theorem kw_370 : Cond.selects "ClearingBooksModel" y_M_parties y_M_parties ∈ wAll := wAll_in (k := 370) (by decide +kernel) (by decide)
theorem kw_371 : Cond.code y_M_parties prog_3_method_15_code 1 (some .int) ∈ wAll := wAll_in (k := 371) (by rfl) (by decide)
theorem kw_372 : Cond.methodLink "ClearingBooksLaw" 91 y_M_audit ∈ wAll := wAll_in (k := 372) (by decide +kernel) (by decide)
theorem kw_373 : Cond.instanceMethod y_M_audit ∈ wAll := wAll_in (k := 373) (by decide +kernel) (by decide)
theorem kw_374 : Cond.selects "ClearingBooksModel" y_M_audit y_M_audit ∈ wAll := wAll_in (k := 374) (by decide +kernel) (by decide)
theorem kw_375 : Cond.code y_M_audit prog_3_method_16_code 1 (some .int) ∈ wAll := wAll_in (k := 375) (by rfl) (by decide)
theorem kw_376 : Cond.constantLong "ClearingBooksLaw" 58 (4294967295 : Int64) ∈ wAll := wAll_in (k := 376) (by decide +kernel) (by decide)
theorem ks_0 : Cond.selects "ClearingBooks" y_B_makeTransfers y_B_makeTransfers ∈ wAll := wAll_sel (k := 0) (by decide +kernel) (by decide)
theorem ks_1 : Cond.selects "ClearingBooks" y_B_leastOpen y_B_leastOpen ∈ wAll := wAll_sel (k := 1) (by decide +kernel) (by decide)
theorem ks_2 : Cond.selects "ClearingBooks" y_B_greatestOpen y_B_greatestOpen ∈ wAll := wAll_sel (k := 2) (by decide +kernel) (by decide)
theorem ks_3 : Cond.selects "ClearingBooks" y_B_makeTransfer y_B_makeTransfer ∈ wAll := wAll_sel (k := 3) (by decide +kernel) (by decide)
theorem ks_4 : Cond.selects "ClearingBooks" y_B_sumOf y_B_sumOf ∈ wAll := wAll_sel (k := 4) (by decide +kernel) (by decide)
theorem ks_5 : Cond.selects "ClearingBooks" y_B_enter y_B_enter ∈ wAll := wAll_sel (k := 5) (by decide +kernel) (by decide)
theorem ks_6 : Cond.selects "java/lang/Throwable" ⟨"java/lang/Throwable", "fillInStackTrace", "(I)Ljava/lang/Throwable;"⟩ ⟨"java/lang/Throwable", "fillInStackTrace", "(I)Ljava/lang/Throwable;"⟩ ∈ wAll := wAll_sel (k := 6) (by decide +kernel) (by decide)
theorem ks_7 : Cond.selects "ClearingBooks" y_B_requireKind y_B_requireKind ∈ wAll := wAll_sel (k := 7) (by decide +kernel) (by decide)
theorem ks_8 : Cond.selects "ClearingBooks" y_B_isParty y_B_isParty ∈ wAll := wAll_sel (k := 8) (by decide +kernel) (by decide)
theorem ks_9 : Cond.selects "ClearingBooks" y_B_placeOf y_B_placeOf ∈ wAll := wAll_sel (k := 9) (by decide +kernel) (by decide)
theorem ks_10 : Cond.selects "ClearingBooksModel" y_M_come y_M_come ∈ wAll := wAll_sel (k := 10) (by decide +kernel) (by decide)
theorem ks_11 : Cond.selects "ClearingBooksModel" y_M_is y_M_is ∈ wAll := wAll_sel (k := 11) (by decide +kernel) (by decide)
theorem ks_12 : Cond.selects "ClearingBooksModel" y_M_goes y_M_goes ∈ wAll := wAll_sel (k := 12) (by decide +kernel) (by decide)
theorem wi_B : ∀ w ∈ u_ws "ClearingBooks" T_B 12, w ∈ wAll := by
  intro w hw
  obtain ⟨k, hk, rfl⟩ := u_mem hw
  match k, hk with
  | 0, _ => exact kw_29
  | 1, _ => exact kw_31
  | 2, _ => exact kw_33
  | 3, _ => exact kw_35
  | 4, _ => exact kw_37
  | 5, _ => exact kw_39
  | 6, _ => exact kw_41
  | 7, _ => exact kw_43
  | 8, _ => exact kw_45
  | 9, _ => exact kw_47
  | 10, _ => exact kw_49
  | 11, _ => exact kw_51
  | k + 12, h => exact absurd h (by omega)
theorem wi_M : ∀ w ∈ u_ws "ClearingBooksModel" T_M 13, w ∈ wAll := by
  intro w hw
  obtain ⟨k, hk, rfl⟩ := u_mem hw
  match k, hk with
  | 0, _ => exact kw_286
  | 1, _ => exact kw_288
  | 2, _ => exact kw_290
  | 3, _ => exact kw_292
  | 4, _ => exact kw_294
  | 5, _ => exact kw_296
  | 6, _ => exact kw_298
  | 7, _ => exact kw_300
  | 8, _ => exact kw_302
  | 9, _ => exact kw_304
  | 10, _ => exact kw_306
  | 11, _ => exact kw_308
  | 12, _ => exact kw_310
  | k + 13, h => exact absurd h (by omega)
def cb_ks : List (Nat × String) := [(99, "a fee or share is not 0 to 1000"), (103, "there are 15 parties"), (106, "no such party of this kind"), (110, "an amount is out of its bounds"), (71, "what is not 0 or 1"), (79, "no such transfer"), (81, "what is not 0 to 2"), (87, "no such party"), (93, "what is not 0 to 4")]
theorem at_iae : ∀ w ∈ Bundle.ownAtoms "ClearingBooks" 73 "java/lang/IllegalArgumentException" ["java/lang/RuntimeException", "java/lang/Exception"], w ∈ xc_w ∨ w ∈ xc_f ∨ w ∈ wAll :=
  List.forall_mem_cons.mpr ⟨Or.inr (Or.inr kw_3), List.forall_mem_cons.mpr ⟨Or.inr (Or.inr kw_126), List.forall_mem_cons.mpr ⟨Or.inr (Or.inr kw_135), List.forall_mem_cons.mpr ⟨Or.inr (Or.inr kw_138), List.forall_mem_cons.mpr ⟨Or.inr (Or.inr kw_141), List.forall_mem_cons.mpr ⟨Or.inr (Or.inr kw_143), List.forall_mem_cons.mpr ⟨Or.inr (Or.inr kw_127), List.forall_mem_cons.mpr ⟨Or.inr (Or.inr kw_128), List.forall_mem_cons.mpr ⟨Or.inr (Or.inr kw_15), List.forall_mem_cons.mpr ⟨Or.inr (Or.inr kw_16), List.forall_mem_cons.mpr ⟨Or.inr (Or.inr kw_129), List.forall_mem_cons.mpr ⟨Or.inr (Or.inr kw_134), List.forall_mem_cons.mpr ⟨Or.inr (Or.inr kw_139), List.forall_mem_cons.mpr ⟨Or.inr (Or.inr kw_159), List.forall_mem_cons.mpr ⟨Or.inr (Or.inr kw_116), List.forall_mem_cons.mpr ⟨Or.inr (Or.inr kw_160), List.forall_mem_cons.mpr ⟨Or.inr (Or.inr kw_118), List.forall_mem_cons.mpr ⟨Or.inr (Or.inr kw_161), List.forall_mem_cons.mpr ⟨Or.inr (Or.inr kw_120), List.forall_mem_cons.mpr ⟨Or.inr (Or.inr kw_130), List.forall_mem_cons.mpr ⟨Or.inl (List.mem_of_getElem? (i := 0) rfl), List.forall_mem_cons.mpr ⟨Or.inr (Or.inr kw_132), List.forall_mem_cons.mpr ⟨Or.inl (List.mem_of_getElem? (i := 1) rfl), List.forall_mem_cons.mpr ⟨Or.inr (Or.inr kw_122), List.forall_mem_cons.mpr ⟨Or.inr (Or.inr kw_155), List.forall_mem_cons.mpr ⟨Or.inr (Or.inr kw_156), List.forall_mem_cons.mpr ⟨Or.inr (Or.inr kw_158), List.forall_mem_cons.mpr ⟨Or.inr (Or.inr kw_122), List.forall_mem_cons.mpr ⟨Or.inr (Or.inr kw_146), List.forall_mem_cons.mpr ⟨Or.inr (Or.inr kw_147), List.forall_mem_cons.mpr ⟨Or.inr (Or.inr kw_148), List.forall_mem_cons.mpr ⟨Or.inr (Or.inr kw_149), List.forall_mem_cons.mpr ⟨Or.inr (Or.inl (List.mem_of_getElem? (i := 2) rfl)), List.forall_mem_cons.mpr ⟨Or.inr (Or.inr kw_149), List.forall_mem_cons.mpr ⟨Or.inr (Or.inr kw_150), List.forall_mem_cons.mpr ⟨Or.inr (Or.inr kw_151), List.forall_mem_cons.mpr ⟨Or.inr (Or.inr kw_152), List.forall_mem_cons.mpr ⟨Or.inr (Or.inl (List.mem_of_getElem? (i := 3) rfl)), List.forall_mem_cons.mpr ⟨Or.inr (Or.inr kw_152), List.forall_mem_cons.mpr ⟨Or.inr (Or.inr kw_153), List.forall_mem_cons.mpr ⟨Or.inr (Or.inr kw_154), List.forall_mem_cons.mpr ⟨Or.inr (Or.inr kw_155), List.forall_mem_cons.mpr ⟨Or.inr (Or.inl (List.mem_of_getElem? (i := 4) rfl)), List.forall_mem_cons.mpr ⟨Or.inr (Or.inr kw_145), List.forall_mem_cons.mpr ⟨Or.inr (Or.inr kw_105), List.forall_mem_cons.mpr ⟨Or.inr (Or.inl (List.mem_of_getElem? (i := 0) rfl)), List.forall_mem_cons.mpr ⟨Or.inr (Or.inr kw_113), List.forall_mem_cons.mpr ⟨Or.inr (Or.inr kw_114), List.forall_mem_cons.mpr ⟨Or.inr (Or.inr kw_115), List.forall_mem_cons.mpr ⟨Or.inr (Or.inr kw_117), List.forall_mem_cons.mpr ⟨Or.inr (Or.inr kw_119), List.forall_mem_cons.mpr ⟨Or.inr (Or.inr kw_121), List.forall_mem_cons.mpr ⟨Or.inl (List.mem_of_getElem? (i := 2) rfl), List.forall_mem_cons.mpr ⟨Or.inl (List.mem_of_getElem? (i := 3) rfl), List.forall_mem_cons.mpr ⟨Or.inr (Or.inr kw_157), List.forall_mem_cons.mpr ⟨Or.inr (Or.inr kw_124), List.forall_mem_cons.mpr ⟨Or.inr (Or.inr kw_123), fun _ h => absurd h List.not_mem_nil⟩⟩⟩⟩⟩⟩⟩⟩⟩⟩⟩⟩⟩⟩⟩⟩⟩⟩⟩⟩⟩⟩⟩⟩⟩⟩⟩⟩⟩⟩⟩⟩⟩⟩⟩⟩⟩⟩⟩⟩⟩⟩⟩⟩⟩⟩⟩⟩⟩⟩⟩⟩⟩⟩⟩⟩⟩
theorem at_ise : ∀ w ∈ Bundle.ownAtoms "ClearingBooks" 105 "java/lang/IllegalStateException" ["java/lang/RuntimeException", "java/lang/Exception"], w ∈ xc_w ∨ w ∈ xc_f ∨ w ∈ wAll :=
  List.forall_mem_cons.mpr ⟨Or.inr (Or.inr kw_3), List.forall_mem_cons.mpr ⟨Or.inr (Or.inr kw_126), List.forall_mem_cons.mpr ⟨Or.inr (Or.inr kw_135), List.forall_mem_cons.mpr ⟨Or.inr (Or.inr kw_138), List.forall_mem_cons.mpr ⟨Or.inr (Or.inr kw_141), List.forall_mem_cons.mpr ⟨Or.inr (Or.inr kw_143), List.forall_mem_cons.mpr ⟨Or.inr (Or.inr kw_127), List.forall_mem_cons.mpr ⟨Or.inr (Or.inr kw_128), List.forall_mem_cons.mpr ⟨Or.inr (Or.inr kw_15), List.forall_mem_cons.mpr ⟨Or.inr (Or.inr kw_16), List.forall_mem_cons.mpr ⟨Or.inr (Or.inr kw_129), List.forall_mem_cons.mpr ⟨Or.inr (Or.inr kw_134), List.forall_mem_cons.mpr ⟨Or.inr (Or.inr kw_139), List.forall_mem_cons.mpr ⟨Or.inr (Or.inr kw_159), List.forall_mem_cons.mpr ⟨Or.inr (Or.inr kw_116), List.forall_mem_cons.mpr ⟨Or.inr (Or.inr kw_160), List.forall_mem_cons.mpr ⟨Or.inr (Or.inr kw_118), List.forall_mem_cons.mpr ⟨Or.inr (Or.inr kw_161), List.forall_mem_cons.mpr ⟨Or.inr (Or.inr kw_120), List.forall_mem_cons.mpr ⟨Or.inr (Or.inr kw_130), List.forall_mem_cons.mpr ⟨Or.inl (List.mem_of_getElem? (i := 0) rfl), List.forall_mem_cons.mpr ⟨Or.inr (Or.inr kw_132), List.forall_mem_cons.mpr ⟨Or.inl (List.mem_of_getElem? (i := 1) rfl), List.forall_mem_cons.mpr ⟨Or.inr (Or.inr kw_122), List.forall_mem_cons.mpr ⟨Or.inr (Or.inr kw_155), List.forall_mem_cons.mpr ⟨Or.inr (Or.inr kw_156), List.forall_mem_cons.mpr ⟨Or.inr (Or.inr kw_158), List.forall_mem_cons.mpr ⟨Or.inr (Or.inr kw_122), List.forall_mem_cons.mpr ⟨Or.inr (Or.inr kw_182), List.forall_mem_cons.mpr ⟨Or.inr (Or.inr kw_183), List.forall_mem_cons.mpr ⟨Or.inr (Or.inr kw_184), List.forall_mem_cons.mpr ⟨Or.inr (Or.inr kw_149), List.forall_mem_cons.mpr ⟨Or.inr (Or.inl (List.mem_of_getElem? (i := 2) rfl)), List.forall_mem_cons.mpr ⟨Or.inr (Or.inr kw_149), List.forall_mem_cons.mpr ⟨Or.inr (Or.inr kw_150), List.forall_mem_cons.mpr ⟨Or.inr (Or.inr kw_151), List.forall_mem_cons.mpr ⟨Or.inr (Or.inr kw_152), List.forall_mem_cons.mpr ⟨Or.inr (Or.inl (List.mem_of_getElem? (i := 3) rfl)), List.forall_mem_cons.mpr ⟨Or.inr (Or.inr kw_152), List.forall_mem_cons.mpr ⟨Or.inr (Or.inr kw_153), List.forall_mem_cons.mpr ⟨Or.inr (Or.inr kw_154), List.forall_mem_cons.mpr ⟨Or.inr (Or.inr kw_155), List.forall_mem_cons.mpr ⟨Or.inr (Or.inl (List.mem_of_getElem? (i := 4) rfl)), List.forall_mem_cons.mpr ⟨Or.inr (Or.inr kw_181), List.forall_mem_cons.mpr ⟨Or.inr (Or.inr kw_172), List.forall_mem_cons.mpr ⟨Or.inr (Or.inl (List.mem_of_getElem? (i := 1) rfl)), List.forall_mem_cons.mpr ⟨Or.inr (Or.inr kw_174), List.forall_mem_cons.mpr ⟨Or.inr (Or.inr kw_137), List.forall_mem_cons.mpr ⟨Or.inr (Or.inr kw_175), List.forall_mem_cons.mpr ⟨Or.inr (Or.inr kw_176), List.forall_mem_cons.mpr ⟨Or.inr (Or.inr kw_177), List.forall_mem_cons.mpr ⟨Or.inr (Or.inr kw_178), List.forall_mem_cons.mpr ⟨Or.inl (List.mem_of_getElem? (i := 2) rfl), List.forall_mem_cons.mpr ⟨Or.inl (List.mem_of_getElem? (i := 3) rfl), List.forall_mem_cons.mpr ⟨Or.inr (Or.inr kw_157), List.forall_mem_cons.mpr ⟨Or.inr (Or.inr kw_124), List.forall_mem_cons.mpr ⟨Or.inr (Or.inr kw_179), fun _ h => absurd h List.not_mem_nil⟩⟩⟩⟩⟩⟩⟩⟩⟩⟩⟩⟩⟩⟩⟩⟩⟩⟩⟩⟩⟩⟩⟩⟩⟩⟩⟩⟩⟩⟩⟩⟩⟩⟩⟩⟩⟩⟩⟩⟩⟩⟩⟩⟩⟩⟩⟩⟩⟩⟩⟩⟩⟩⟩⟩⟩⟩
end
section
/-! the numbers behind the class: pure functions, shaped as the code is -/
section XP
/-- the first place of the least of f 0 .. f i -/
def am (f : Nat → Int64) : Nat → Nat
  | 0 => 0
  | i + 1 => if f (am f i) ≤ f (i + 1) then am f i else i + 1
/-- the first place of the greatest -/
def ax (f : Nat → Int64) : Nat → Nat
  | 0 => 0
  | i + 1 => if f (i + 1) ≤ f (ax f i) then ax f i else i + 1
def sm (f : Nat → Int64) : Nat → Int64
  | 0 => 0
  | i + 1 => sm f i + f i
def pl (f : Nat → Int64) (j : Nat) : Nat → Nat
  | 0 => 0
  | i + 1 => if f j < f i ∨ (f i = f j ∧ i < j) then pl f j i + 1 else pl f j i
theorem am_le (f : Nat → Int64) : ∀ i, am f i ≤ i
  | 0 => Nat.le_refl _
  | i + 1 => by
    have h := am_le f i
    unfold am
    split <;> omega
theorem ax_le (f : Nat → Int64) : ∀ i, ax f i ≤ i
  | 0 => Nat.le_refl _
  | i + 1 => by
    have h := ax_le f i
    unfold ax
    split <;> omega
theorem pl_le (f : Nat → Int64) (j : Nat) : ∀ i, pl f j i ≤ i
  | 0 => Nat.le_refl _
  | i + 1 => by
    have h := pl_le f j i
    unfold pl
    split <;> omega
theorem am_y {f : Nat → Int64} {i : Nat} (h : f (am f i) ≤ f (i + 1)) : am f (i + 1) = am f i := by rw [am, if_pos h]
theorem am_n {f : Nat → Int64} {i : Nat} (h : ¬ f (am f i) ≤ f (i + 1)) : am f (i + 1) = i + 1 := by rw [am, if_neg h]
theorem ax_y {f : Nat → Int64} {i : Nat} (h : f (i + 1) ≤ f (ax f i)) : ax f (i + 1) = ax f i := by rw [ax, if_pos h]
theorem ax_n {f : Nat → Int64} {i : Nat} (h : ¬ f (i + 1) ≤ f (ax f i)) : ax f (i + 1) = i + 1 := by rw [ax, if_neg h]
theorem pl_y {f : Nat → Int64} {j i : Nat} (h : f j < f i ∨ (f i = f j ∧ i < j)) : pl f j (i + 1) = pl f j i + 1 := by rw [pl, if_pos h]
theorem pl_n {f : Nat → Int64} {j i : Nat} (h : ¬ (f j < f i ∨ (f i = f j ∧ i < j))) : pl f j (i + 1) = pl f j i := by rw [pl, if_neg h]
/-- below i the one, from i on the other -/
def cpy {α : Type} (i : Nat) (a b : Nat → α) : Nat → α := fun q => if q < i then a q else b q
theorem cpy_0 {α : Type} (a b : Nat → α) : cpy 0 a b = b := by funext q; simp [cpy]
theorem cpy_at {α : Type} (i : Nat) (a b : Nat → α) : cpy i a b i = b i := by simp [cpy]
theorem cpy_up {i : Nat} {a b : Nat → Int64} {v : Int64} (h : v = a i) : vp_updL (cpy i a b) i v = cpy (i + 1) a b := by
  funext q
  subst h
  by_cases h1 : q = i
  · subst h1; simp [vp_updL, cpy]
  · by_cases h2 : q < i
    · have h3 : q < i + 1 := by omega
      simp [vp_updL, cpy, h1, h2, h3]
    · have h3 : ¬ q < i + 1 := by omega
      simp [vp_updL, cpy, h1, h2, h3]
/-- transfers: how many; what is open; who pays; whom; how much -/
abbrev TT : Type := Nat × (Nat → Int64) × (Nat → Int32) × (Nat → Int32) × (Nat → Int64)
def pay (f : Nat → Int64) (i j : Nat) : Int64 := if f j < -f i then f j else -f i
def aft (f : Nat → Int64) (i j : Nat) : Nat → Int64 := vp_updL (vp_updL f i (f i + pay f i j)) j (vp_updL f i (f i + pay f i j) j - pay f i j)
def tr1 (n : Nat) (t : TT) : TT := (t.1 + 1, aft t.2.1 (am t.2.1 (n - 1)) (ax t.2.1 (n - 1)), upd t.2.2.1 t.1 (nI (am t.2.1 (n - 1))), upd t.2.2.2.1 t.1 (nI (ax t.2.1 (n - 1))), vp_updL t.2.2.2.2 t.1 (pay t.2.1 (am t.2.1 (n - 1)) (ax t.2.1 (n - 1))))
def trs (n : Nat) : Nat → TT → TT
  | 0, t => t
  | k + 1, t => if 0 ≤ t.2.1 (am t.2.1 (n - 1)) then t else trs n k (tr1 n t)
def zz (x : Int64) (k : Nat) : Nat := if x = 0 then 0 else k
end XP
section XP2
def cgv (x : Int64) (k : Int32) : Int64 := (x * k.toInt64 + 10000 - 1) / 10000
def dnv (x : Int64) (k : Int32) : Int64 := x * k.toInt64 / 10000
/-- positions behind a clearing, behind a going back -/
def po_cl (po : Nat → Int64) (i j : Nat) (x cg dn : Int64) : Nat → Int64 :=
  vp_updL (vp_updL (vp_updL po i (po i + (x - cg))) j (vp_updL po i (po i + (x - cg)) j + (dn - x))) 0 (vp_updL (vp_updL po i (po i + (x - cg))) j (vp_updL po i (po i + (x - cg)) j + (dn - x)) 0 + (cg - dn))
def po_bk (po : Nat → Int64) (i j : Nat) (x : Int64) : Nat → Int64 := vp_updL (vp_updL po i (po i - x)) j (vp_updL po i (po i - x) j + x)
end XP2
section XP3
/-- the reference's cost -/
def mcv (x : Int64) (k : Int32) : Int64 := if x * k.toInt64 ≤ x * k.toInt64 / 10000 * 10000 then x * k.toInt64 / 10000 + 0 else x * k.toInt64 / 10000 + 1
theorem tw_no {k : Int32} {m : Nat} (hm : m < 100) (h1 : ¬ k < 0) (h2 : ¬ nI m < k) : ¬ (k.toInt < 0 ∨ (m : Int) < k.toInt) := by
  rintro (h | h)
  · exact h1 (Int32.lt_iff_toInt_lt.mpr (by simpa using h))
  · exact h2 (Int32.lt_iff_toInt_lt.mpr (by rw [nI_toInt (by omega)]; exact h))
/-- eleven addresses -/
def adf (a0 a1 a2 a3 a4 a5 a6 a7 a8 a9 a10 : Nat) : Nat → Nat := fun k => [a0, a1, a2, a3, a4, a5, a6, a7, a8, a9, a10].getD k 0
end XP3
end
section
/-! settling ends: with a sum of 0 every transfer leaves one fewer that is off 0 -/
section XN
def si (f : Nat → Int64) : Nat → Int
  | 0 => 0
  | i + 1 => si f i + (f i).toInt
def cz (f : Nat → Int64) : Nat → Nat
  | 0 => 0
  | i + 1 => cz f i + (if f i = 0 then 0 else 1)
theorem upL_s (f : Nat → Int64) (i : Nat) (v : Int64) : vp_updL f i v i = v := by simp [vp_updL]
theorem upL_n {f : Nat → Int64} {i q : Nat} {v : Int64} (h : q ≠ i) : vp_updL f i v q = f q := by simp [vp_updL, h]
theorem si_out {f : Nat → Int64} {i : Nat} {v : Int64} : ∀ n, n ≤ i → si (vp_updL f i v) n = si f n
  | 0, _ => rfl
  | n + 1, h => by
    have h1 := si_out (f := f) (i := i) (v := v) n (by omega)
    have h2 : vp_updL f i v n = f n := upL_n (by omega)
    show si (vp_updL f i v) n + _ = si f n + _
    rw [h1, h2]
theorem si_up {f : Nat → Int64} {i : Nat} {v : Int64} : ∀ n, i < n → si (vp_updL f i v) n = si f n + (v.toInt - (f i).toInt)
  | 0, h => absurd h (by omega)
  | n + 1, h => by
    show si (vp_updL f i v) n + (vp_updL f i v n).toInt = si f n + (f n).toInt + _
    by_cases h1 : i = n
    · subst h1
      rw [si_out i (Nat.le_refl i), upL_s]
      omega
    · rw [si_up n (by omega), upL_n (by omega)]
      omega
theorem cz_out {f : Nat → Int64} {i : Nat} {v : Int64} : ∀ n, n ≤ i → cz (vp_updL f i v) n = cz f n
  | 0, _ => rfl
  | n + 1, h => by
    have h1 := cz_out (f := f) (i := i) (v := v) n (by omega)
    have h2 : vp_updL f i v n = f n := upL_n (by omega)
    show cz (vp_updL f i v) n + _ = cz f n + _
    rw [h1, h2]
theorem cz_up {f : Nat → Int64} {i : Nat} {v : Int64} : ∀ n, i < n → cz (vp_updL f i v) n + (if f i = 0 then 0 else 1) = cz f n + (if v = 0 then 0 else 1)
  | 0, h => absurd h (by omega)
  | n + 1, h => by
    show cz (vp_updL f i v) n + (if vp_updL f i v n = 0 then 0 else 1) + _ = cz f n + (if f n = 0 then 0 else 1) + _
    by_cases h1 : i = n
    · subst h1
      rw [cz_out i (Nat.le_refl i), upL_s]
      omega
    · have h2 := cz_up (f := f) (v := v) n (show i < n by omega)
      rw [upL_n (show n ≠ i by omega)]
      omega
theorem cz_le (f : Nat → Int64) : ∀ n, cz f n ≤ n
  | 0 => Nat.le_refl _
  | n + 1 => by
    have h := cz_le f n
    show cz f n + (if f n = 0 then 0 else 1) ≤ n + 1
    split <;> omega
theorem cz_0 {f : Nat → Int64} : ∀ n, cz f n = 0 → si f n = 0 ∧ ∀ q, q < n → f q = 0
  | 0, _ => ⟨rfl, fun q h => absurd h (by omega)⟩
  | n + 1, h => by
    have h' : cz f n + (if f n = 0 then 0 else 1) = 0 := h
    by_cases h1 : f n = 0
    · rw [if_pos h1] at h'
      obtain ⟨a, b⟩ := cz_0 n (by omega)
      refine ⟨by show si f n + _ = 0; rw [a, h1]; rfl, fun q hq => ?_⟩
      by_cases h2 : q = n
      · rw [h2]; exact h1
      · exact b q (by omega)
    · rw [if_neg h1] at h'
      omega
theorem cz_1 {f : Nat → Int64} : ∀ n, cz f n ≤ 1 → si f n = 0 → cz f n = 0
  | 0, _, _ => rfl
  | n + 1, h, hs => by
    have h' : cz f n + (if f n = 0 then 0 else 1) ≤ 1 := h
    have hs' : si f n + (f n).toInt = 0 := hs
    show cz f n + (if f n = 0 then 0 else 1) = 0
    by_cases h1 : f n = 0
    · rw [if_pos h1] at h' ⊢
      rw [h1] at hs'
      have := cz_1 n (by omega) (by simpa using hs')
      omega
    · rw [if_neg h1] at h'
      obtain ⟨a, -⟩ := cz_0 (f := f) n (by omega)
      rw [a] at hs'
      exact absurd (Int64.toInt_inj.mp (show (f n).toInt = (0 : Int64).toInt by rw [Int64.toInt_zero]; omega)) h1
theorem am_min (f : Nat → Int64) : ∀ i q, q ≤ i → (f (am f i)).toInt ≤ (f q).toInt
  | 0, q, h => by
    have : q = 0 := by omega
    subst this
    exact Int.le_refl _
  | i + 1, q, h => by
    by_cases h1 : f (am f i) ≤ f (i + 1)
    · rw [am_y h1]
      by_cases h2 : q = i + 1
      · rw [h2]; exact Int64.le_iff_toInt_le.mp h1
      · exact am_min f i q (by omega)
    · rw [am_n h1]
      have h3 := Int64.lt_iff_toInt_lt.mp (Int64.not_le.mp h1)
      by_cases h2 : q = i + 1
      · rw [h2]; exact Int.le_refl _
      · have := am_min f i q (by omega)
        omega
theorem ax_max (f : Nat → Int64) : ∀ i q, q ≤ i → (f q).toInt ≤ (f (ax f i)).toInt
  | 0, q, h => by
    have : q = 0 := by omega
    subst this
    exact Int.le_refl _
  | i + 1, q, h => by
    by_cases h1 : f (i + 1) ≤ f (ax f i)
    · rw [ax_y h1]
      by_cases h2 : q = i + 1
      · rw [h2]; exact Int64.le_iff_toInt_le.mp h1
      · exact ax_max f i q (by omega)
    · rw [ax_n h1]
      have h3 := Int64.lt_iff_toInt_lt.mp (Int64.not_le.mp h1)
      by_cases h2 : q = i + 1
      · rw [h2]; exact Int.le_refl _
      · have := ax_max f i q (by omega)
        omega
theorem si_np {f : Nat → Int64} : ∀ n, (∀ q, q < n → (f q).toInt ≤ 0) → si f n ≤ 0 ∧ ∀ q, q < n → si f n ≤ (f q).toInt
  | 0, _ => ⟨Int.le_refl _, fun q h => absurd h (by omega)⟩
  | n + 1, h => by
    obtain ⟨a, b⟩ := si_np (f := f) n (fun q hq => h q (by omega))
    have c := h n (by omega)
    refine ⟨by show si f n + _ ≤ 0; omega, fun q hq => ?_⟩
    show si f n + (f n).toInt ≤ _
    by_cases h2 : q = n
    · rw [h2]; omega
    · have := b q (by omega)
      omega
/-- bounds within which no sum of two wraps around -/
def sml (f : Nat → Int64) (n : Nat) : Prop := ∀ q, q < n → -4611686018427387904 ≤ (f q).toInt ∧ (f q).toInt ≤ 4611686018427387904
theorem neg_i {x : Int64} (h1 : -4611686018427387904 ≤ x.toInt) (h2 : x.toInt ≤ 4611686018427387904) : (-x).toInt = -x.toInt := by
  rw [Int64.toInt_neg]
  exact Jvm.Kit.bmod64 (by omega) (by omega)
theorem pay_i {f : Nat → Int64} {i j : Nat} (hi : -4611686018427387904 ≤ (f i).toInt ∧ (f i).toInt ≤ 4611686018427387904) : (pay f i j).toInt = (if (f j).toInt < -(f i).toInt then (f j).toInt else -(f i).toInt) := by
  unfold pay
  have e := neg_i hi.1 hi.2
  by_cases h : f j < -f i
  · have h' := Int64.lt_iff_toInt_lt.mp h
    rw [e] at h'
    rw [if_pos h, if_pos h']
  · have h' : ¬ (f j).toInt < -(f i).toInt := fun z => h (Int64.lt_iff_toInt_lt.mpr (by rw [e]; exact z))
    rw [if_neg h, if_neg h', e]
/-- one transfer -/
theorem tr_step {f : Nat → Int64} {n : Nat} (h1 : 1 ≤ n) (hs : si f n = 0) (hb : sml f n) (hneg : ¬ 0 ≤ f (am f (n - 1))) :
    si (aft f (am f (n - 1)) (ax f (n - 1))) n = 0 ∧ sml (aft f (am f (n - 1)) (ax f (n - 1))) n ∧ cz (aft f (am f (n - 1)) (ax f (n - 1))) n + 1 ≤ cz f n := by
  have hi := am_le f (n - 1)
  have hj := ax_le f (n - 1)
  have hmx : ∀ q, q < n → (f q).toInt ≤ (f (ax f (n - 1))).toInt := fun q hq => ax_max f (n - 1) q (by omega)
  generalize am f (n - 1) = i at hi hneg ⊢
  generalize ax f (n - 1) = j at hj hmx ⊢
  have hin : i < n := by omega
  have hjn : j < n := by omega
  have hfi : (f i).toInt < 0 := by
    have := Int64.lt_iff_toInt_lt.mp (Int64.not_le.mp hneg)
    rwa [Int64.toInt_zero] at this
  have hfj : 0 < (f j).toInt := by
    by_cases h : 0 < (f j).toInt
    · exact h
    · exfalso
      obtain ⟨-, b⟩ := si_np (f := f) n (fun q hq => by have := hmx q hq; omega)
      have := b i hin
      omega
  have hij : j ≠ i := fun z => by rw [z] at hfj; omega
  have hv := pay_i (f := f) (i := i) (j := j) (hb i hin)
  have bi := hb i hin
  have bj := hb j hjn
  unfold aft
  generalize pay f i j = v at hv ⊢
  have ei : (f i + v).toInt = (f i).toInt + v.toInt := by
    rw [Int64.toInt_add]
    split at hv <;> exact Jvm.Kit.bmod64 (by omega) (by omega)
  have ej0 : vp_updL f i (f i + v) j = f j := upL_n hij
  have ej : (f j - v).toInt = (f j).toInt - v.toInt := by
    rw [Int64.toInt_sub]
    split at hv <;> exact Jvm.Kit.bmod64 (by omega) (by omega)
  rw [ej0]
  refine ⟨?_, fun q hq => ?_, ?_⟩
  · rw [si_up n hjn, si_up n hin, ej0, ei, ej]
    omega
  · by_cases h2 : q = j
    · rw [h2, upL_s, ej]
      split at hv <;> omega
    · rw [upL_n h2]
      by_cases h3 : q = i
      · rw [h3, upL_s, ei]
        split at hv <;> omega
      · rw [upL_n h3]
        exact hb q hq
  · have c1 := cz_up (f := f) (v := f i + v) n hin
    have c2 := cz_up (f := vp_updL f i (f i + v)) (v := f j - v) n hjn
    rw [ej0] at c2
    have n1 : ¬ f i = 0 := fun z => by rw [z] at hfi; simp at hfi
    have n2 : ¬ f j = 0 := fun z => by rw [z] at hfj; simp at hfj
    rw [if_neg n1] at c1
    rw [if_neg n2] at c2
    have hz : f i + v = 0 ∨ f j - v = 0 := by
      split at hv
      · right
        exact Int64.toInt_inj.mp (by rw [ej, Int64.toInt_zero]; omega)
      · left
        exact Int64.toInt_inj.mp (by rw [ei, Int64.toInt_zero]; omega)
    rcases hz with z | z
    · rw [if_pos z] at c1
      have : (if f j - v = 0 then 0 else 1) ≤ 1 := by split <;> omega
      omega
    · rw [if_pos z] at c2
      have : (if f i + v = 0 then 0 else 1) ≤ 1 := by split <;> omega
      omega
/-- so many steps are enough -/
theorem trs_more {n : Nat} (h1 : 1 ≤ n) : ∀ (k : Nat) (t : TT), si t.2.1 n = 0 → sml t.2.1 n → cz t.2.1 n ≤ k + 1 → ∀ m, k ≤ m → trs n m t = trs n k t
  | 0, t, hs, hb, hc, m, _ => by
    have h0 := cz_1 n hc hs
    obtain ⟨-, hz⟩ := cz_0 n h0
    have hi := am_le t.2.1 (n - 1)
    have e : t.2.1 (am t.2.1 (n - 1)) = 0 := hz _ (by omega)
    cases m with
    | zero => rfl
    | succ m =>
      show (if 0 ≤ t.2.1 (am t.2.1 (n - 1)) then t else _) = t
      rw [if_pos (by rw [e]; exact Int64.le_refl 0)]
  | k + 1, t, hs, hb, hc, m, hm => by
    cases m with
    | zero => omega
    | succ m =>
      show (if 0 ≤ t.2.1 (am t.2.1 (n - 1)) then t else trs n m (tr1 n t)) = (if 0 ≤ t.2.1 (am t.2.1 (n - 1)) then t else trs n k (tr1 n t))
      by_cases h : 0 ≤ t.2.1 (am t.2.1 (n - 1))
      · rw [if_pos h, if_pos h]
      · rw [if_neg h, if_neg h]
        obtain ⟨a, b, c⟩ := tr_step h1 hs hb h
        exact trs_more h1 k (tr1 n t) a b (by show cz (aft _ _ _) n ≤ k + 1; omega) m (by omega)
theorem trs_14 {n : Nat} (h1 : 1 ≤ n) (hn : n ≤ 15) (t : TT) (hs : si t.2.1 n = 0) (hb : sml t.2.1 n) {m : Nat} (hm : 14 ≤ m) : trs n m t = trs n 14 t :=
  trs_more h1 14 t hs hb (by have := cz_le t.2.1 n; omega) m hm
end XN
section XN2
theorem cz_end {f : Nat → Int64} {n : Nat} (h1 : 1 ≤ n) (hs : si f n = 0) (hc : cz f n ≤ 1) : 0 ≤ f (am f (n - 1)) := by
  obtain ⟨-, hz⟩ := cz_0 n (cz_1 n hc hs)
  have hi := am_le f (n - 1)
  rw [hz _ (by omega)]
  exact Int64.le_refl 0
end XN2
section XN3
theorem pay_of {f : Nat → Int64} {i j : Nat} (h : ¬ f j ≤ -f i) : -f i = pay f i j := by
  unfold pay
  rw [if_neg (fun z => h (Int64.le_of_lt z))]
theorem pay_of2 {f : Nat → Int64} {i j : Nat} (h : f j ≤ -f i) : f j = pay f i j := by
  unfold pay
  by_cases z : f j < -f i
  · rw [if_pos z]
  · rw [if_neg z]
    exact Int64.le_antisymm h (Int64.not_lt.mp z)
theorem cpy_in {α : Type} {i q : Nat} {a b : Nat → α} (h : q < i) : cpy i a b q = a q := by simp [cpy, h]
theorem si_eq {f g : Nat → Int64} : ∀ n, (∀ q, q < n → f q = g q) → si f n = si g n
  | 0, _ => rfl
  | n + 1, h => by
    show si f n + _ = si g n + _
    rw [si_eq n (fun q hq => h q (by omega)), h n (by omega)]
theorem si_cpy {n : Nat} {a b : Nat → Int64} : si (cpy n a b) n = si a n := si_eq n (fun _ hq => cpy_in hq)
end XN3
end
section
/-- the class's cells: the object at ad 0, its rows behind; what they hold -/
abbrev cb_w (ad : Nat → Nat) (cI cJ : ClassId) (n tc : Nat) (ki ra : Nat → Int32) (po se : Nat → Int64) (bc : Nat → Int32) (bs op : Nat → Int64) (pr pe : Nat → Int32) (pm : Nat → Int64) : va_W := [(ad 0, .inr (0, [.int (nI n), .ref (ad 1), .ref (ad 2), .ref (ad 3), .ref (ad 4), .ref (ad 5), .ref (ad 6), .ref (ad 7), .int (nI tc), .ref (ad 8), .ref (ad 9), .ref (ad 10)])), (ad 1, .inl (cI, 15, .inl ki)), (ad 2, .inl (cI, 15, .inl ra)), (ad 3, .inl (cJ, 15, .inr (.inl po))), (ad 4, .inl (cJ, 15, .inr (.inl se))), (ad 5, .inl (cI, 15, .inl bc)), (ad 6, .inl (cJ, 15, .inr (.inl bs))), (ad 7, .inl (cJ, 15, .inr (.inl op))), (ad 8, .inl (cI, 14, .inl pr)), (ad 9, .inl (cI, 14, .inl pe)), (ad 10, .inl (cJ, 14, .inr (.inl pm)))]
set_option maxHeartbeats 4000000 in
set_option maxRecDepth 100000 in
theorem c_isParty_y (l : Launch) (dC : Nat → ClassId) (dI : Nat → Nat → Nat) (ad : Nat → Nat) (cI cJ : ClassId) (n tc : Nat) (ki ra : Nat → Int32) (po se : Nat → Int64) (bc : Nat → Int32) (bs op : Nat → Int64) (pr pe : Nat → Int32) (pm : Nat → Int64) (j : Nat) (hj : j < n) (hn : n ≤ 15) : Met l y_B_isParty (.code y_B_isParty b_B_isParty 2 (some .boolean) :: wAll) ({ frames := 0, cells := 0, slots := 0, locals := 0 } : Room) (ro_P [.ref (ad 0), .int (nI j)] (dC, dI) vwCl [(cI, .int), (cJ, .long)] (cb_w ad cI cJ n tc ki ra po se bc bs op pr pe pm) (fun _ => True)) (ro_Q (some (.int (nI 1)))) 0 0 (fun _ => False) := by
  refine Met.ofW (cc := b_B_isParty) (maxL := 2) (ret := (some .boolean)) (by decide) rfl ?_
  intro p e s m args below meth c s₁ B hml hv
  obtain ⟨rfl, hP, hK, hB⟩ := hv
  have hx := B.exec
  have hb := B.bytes
  have hr := B.returns
  have hts0 := atoms_spec (ws := (.code y_B_isParty b_B_isParty 2 (some .boolean) :: wAll)) B.pre
  have hts := hts_all hts0
  have hown : s.vm.findClass "ClearingBooks" = some m.cls := findClass_of_methodNamed B.named
  have hlocks := B.notSynchronized
  have hl := lv_entry ([.ref (ad 0), .int (nI j)]) (n := 2) (Nat.le_of_ble_eq_true rfl)
  rw [lg_entry_eq]
  generalize (lg_sl ([.ref (ad 0), .int (nI j)]) ++ List.replicate (2 - (lg_sl ([.ref (ad 0), .int (nI j)])).length) Slot.unset).toArray = ls at hl ⊢
  have hl : lv_has ls 2 [(0, .ref (ad 0)), (1, .int (nI j))] := hl
  refine lv_iload_n hx hb d_B_isParty_0 rfl (lv_at hl 1 rfl) ?_
  refine lv_if_lt (tgt := 16) hx hb d_B_isParty_1 (by decide) (fun c1 => ?_) (fun c1 => ?_)
  · exact absurd c1 (nI_pos (by omega))
  · refine lv_iload_n hx hb d_B_isParty_4 rfl (lv_at hl 1 rfl) ?_
    refine lv_aload_n hx hb d_B_isParty_5 rfl (lv_at hl 0 rfl) ?_
    refine va_get (D := (dC, dI)) (ci := 0) (v := .int (nI n)) (C := "ClearingBooks") (T := T_B) (N := 12) hx hb hts wi_B hown hK hP 0 rfl rfl 0 (by decide) (hts _ kw_17) (fun _ h9 => h9) rfl d_B_isParty_6 ?_
    refine lv_icmp_ge (tgt := 16) hx hb d_B_isParty_9 (by decide) (fun c2 => ?_) (fun c2 => ?_)
    · replace c2 := (nI_leI (by omega) (by omega)).mp c2
      exfalso; omega
    · replace c2 := mt (nI_leI (by omega) (by omega)).mpr c2
      refine lv_iconst (v := nI 1) hx hb d_B_isParty_12 (by decide) ?_
      refine lv_goto (tgt := 17) hx hb d_B_isParty_13 (by decide) ?_
      exact W.zret (v := nI 1) hx hb hr rfl (fun t ht hW => ⟨rfl, ht⟩) (fun q hq => by cases hq) d_B_isParty_17
set_option maxHeartbeats 4000000 in
set_option maxRecDepth 100000 in
theorem c_isParty_n (l : Launch) (dC : Nat → ClassId) (dI : Nat → Nat → Nat) (ad : Nat → Nat) (cI cJ : ClassId) (n tc : Nat) (ki ra : Nat → Int32) (po se : Nat → Int64) (bc : Nat → Int32) (bs op : Nat → Int64) (pr pe : Nat → Int32) (pm : Nat → Int64) (x : Int32) (hno : ¬ (¬ x < 0 ∧ x < nI n)) : Met l y_B_isParty (.code y_B_isParty b_B_isParty 2 (some .boolean) :: wAll) ({ frames := 0, cells := 0, slots := 0, locals := 0 } : Room) (ro_P [.ref (ad 0), .int x] (dC, dI) vwCl [(cI, .int), (cJ, .long)] (cb_w ad cI cJ n tc ki ra po se bc bs op pr pe pm) (fun _ => True)) (ro_Q (some (.int (nI 0)))) 0 0 (fun _ => False) := by
  refine Met.ofW (cc := b_B_isParty) (maxL := 2) (ret := (some .boolean)) (by decide) rfl ?_
  intro p e s m args below meth c s₁ B hml hv
  obtain ⟨rfl, hP, hK, hB⟩ := hv
  have hx := B.exec
  have hb := B.bytes
  have hr := B.returns
  have hts0 := atoms_spec (ws := (.code y_B_isParty b_B_isParty 2 (some .boolean) :: wAll)) B.pre
  have hts := hts_all hts0
  have hown : s.vm.findClass "ClearingBooks" = some m.cls := findClass_of_methodNamed B.named
  have hlocks := B.notSynchronized
  have hl := lv_entry ([.ref (ad 0), .int x]) (n := 2) (Nat.le_of_ble_eq_true rfl)
  rw [lg_entry_eq]
  generalize (lg_sl ([.ref (ad 0), .int x]) ++ List.replicate (2 - (lg_sl ([.ref (ad 0), .int x])).length) Slot.unset).toArray = ls at hl ⊢
  have hl : lv_has ls 2 [(0, .ref (ad 0)), (1, .int x)] := hl
  refine lv_iload_n hx hb d_B_isParty_0 rfl (lv_at hl 1 rfl) ?_
  refine lv_if_lt (tgt := 16) hx hb d_B_isParty_1 (by decide) (fun c1 => ?_) (fun c1 => ?_)
  · refine lv_iconst (v := nI 0) hx hb d_B_isParty_16 (by decide) ?_
    exact W.zret (v := nI 0) hx hb hr rfl (fun t ht hW => ⟨rfl, ht⟩) (fun q hq => by cases hq) d_B_isParty_17
  · refine lv_iload_n hx hb d_B_isParty_4 rfl (lv_at hl 1 rfl) ?_
    refine lv_aload_n hx hb d_B_isParty_5 rfl (lv_at hl 0 rfl) ?_
    refine va_get (D := (dC, dI)) (ci := 0) (v := .int (nI n)) (C := "ClearingBooks") (T := T_B) (N := 12) hx hb hts wi_B hown hK hP 0 rfl rfl 0 (by decide) (hts _ kw_17) (fun _ h9 => h9) rfl d_B_isParty_6 ?_
    refine lv_icmp_ge (tgt := 16) hx hb d_B_isParty_9 (by decide) (fun c2 => ?_) (fun c2 => ?_)
    · refine lv_iconst (v := nI 0) hx hb d_B_isParty_16 (by decide) ?_
      exact W.zret (v := nI 0) hx hb hr rfl (fun t ht hW => ⟨rfl, ht⟩) (fun q hq => by cases hq) d_B_isParty_17
    · exact absurd ⟨c1, Int32.not_le.mp c2⟩ hno
set_option maxHeartbeats 4000000 in
set_option maxRecDepth 100000 in
theorem c_requireKind_y (l : Launch) (dC : Nat → ClassId) (dI : Nat → Nat → Nat) (ad : Nat → Nat) (cI cJ : ClassId) (n tc : Nat) (ki ra : Nat → Int32) (po se : Nat → Int64) (bc : Nat → Int32) (bs op : Nat → Int64) (pr pe : Nat → Int32) (pm : Nat → Int64) (j : Nat) (k : Int32) (hj : j < n) (hn : n ≤ 15) (hk : ki j = k) : Met l y_B_requireKind (.code y_B_requireKind b_B_requireKind 3 none :: wAll) ({ frames := 1, cells := 0, slots := 0, locals := 21 } : Room) (ro_P [.ref (ad 0), .int (nI j), .int k] (dC, dI) vwCl [(cI, .int), (cJ, .long)] (cb_w ad cI cJ n tc ki ra po se bc bs op pr pe pm) (fun _ => True)) (ro_Q none) 0 0 (fun _ => False) := by
  refine Met.ofW (cc := b_B_requireKind) (maxL := 3) (ret := none) (by decide) rfl ?_
  intro p e s m args below meth c s₁ B hml hv
  obtain ⟨rfl, hP, hK, hB⟩ := hv
  have hx := B.exec
  have hb := B.bytes
  have hr := B.returns
  have hts0 := atoms_spec (ws := (.code y_B_requireKind b_B_requireKind 3 none :: wAll)) B.pre
  have hts := hts_all hts0
  have hown : s.vm.findClass "ClearingBooks" = some m.cls := findClass_of_methodNamed B.named
  have hlocks := B.notSynchronized
  have hl := lv_entry ([.ref (ad 0), .int (nI j), .int k]) (n := 3) (Nat.le_of_ble_eq_true rfl)
  rw [lg_entry_eq]
  generalize (lg_sl ([.ref (ad 0), .int (nI j), .int k]) ++ List.replicate (3 - (lg_sl ([.ref (ad 0), .int (nI j), .int k])).length) Slot.unset).toArray = ls at hl ⊢
  have hl : lv_has ls 3 [(0, .ref (ad 0)), (1, .int (nI j)), (2, .int k)] := hl
  refine lv_aload_n hx hb d_B_requireKind_0 rfl (lv_at hl 0 rfl) ?_
  refine lv_iload_n hx hb d_B_requireKind_1 rfl (lv_at hl 1 rfl) ?_
  refine ro_call (va_runV (As := [.int (nI j)]) (rest := []) ⟨hx, hb, hml, hown, hts⟩ (c_isParty_y l dC dI ad cI cJ n tc ki ra po se bc bs op pr pe pm j hj hn) (cwV 1 hts (wAll_v kw_205 kw_207 ks_8 kw_1 kw_208) rfl rfl rfl (by decide +kernel) ⟨Nat.le_of_ble_eq_true rfl, Nat.le_of_ble_eq_true rfl⟩) (ro_preV bl_tt hK hP (ci := 0) (q0 := 0) rfl rfl (fun _ _ _ => trivial)) rfl rfl hl.1 rfl (lv_room (Nat.le_of_ble_eq_true rfl)) d_B_requireKind_2 ⟨Nat.le_of_ble_eq_true rfl, Nat.le_of_ble_eq_true rfl⟩) ?_
  refine W.eq (g2 := F0 m 5 ls [.int (nI 1)]) rfl ?_
  refine lv_if_eq (tgt := 18) hx hb d_B_requireKind_5 (by decide) (fun c1 => ?_) (fun c1 => ?_)
  · exact absurd c1 (by decide)
  · refine lv_aload_n hx hb d_B_requireKind_8 rfl (lv_at hl 0 rfl) ?_
    refine va_get (D := (dC, dI)) (ci := 0) (v := .ref (ad 1)) (C := "ClearingBooks") (T := T_B) (N := 12) hx hb hts wi_B hown hK hP 0 rfl rfl 1 (by decide) (hts _ kw_18) (fun _ h9 => h9) rfl d_B_requireKind_9 ?_
    refine lv_iload_n hx hb d_B_requireKind_12 rfl (lv_at hl 1 rfl) ?_
    refine xa_iaload (f := ki) hx hb hK hP 1 0 rfl rfl (j := j) (by omega) (by decide) d_B_requireKind_13 ?_
    refine lv_iload_n hx hb d_B_requireKind_14 rfl (lv_at hl 2 rfl) ?_
    refine lv_icmp_eq (tgt := 28) hx hb d_B_requireKind_15 (by decide) (fun c2 => ?_) (fun c2 => ?_)
    · exact W.vret hx hb hr (fun t ht hW => ⟨rfl, ht⟩) (fun q hq => by cases hq) d_B_requireKind_28
    · exact absurd hk c2
set_option maxHeartbeats 4000000 in
set_option maxRecDepth 100000 in
theorem c_requireKind_tn (l : Launch) (dC : Nat → ClassId) (dI : Nat → Nat → Nat) (ad : Nat → Nat) (cI cJ : ClassId) (n tc : Nat) (ki ra : Nat → Int32) (po se : Nat → Int64) (bc : Nat → Int32) (bs op : Nat → Int64) (pr pe : Nat → Int32) (pm : Nat → Int64) (x k : Int32) (hno : ¬ (¬ x < 0 ∧ x < nI n)) (hl0 : l.stackTraces = false) : xt_Met l y_B_requireKind (.code y_B_requireKind b_B_requireKind 3 none :: wAll) ({ frames := 6, cells := 1, slots := 6, locals := 90 } : Room) (ro_P [.ref (ad 0), .int x, .int k] (dC, dI) vwCl [(cI, .int), (cJ, .long)] (cb_w ad cI cJ n tc ki ra po se bc bs op pr pe pm) (xc_ok "ClearingBooks" cb_ks)) "java/lang/IllegalArgumentException" 1 6 := by
  refine xt_ofW (cc := b_B_requireKind) (maxL := 3) (ret := none) (by decide) rfl ?_
  intro p e s m args below meth c s₁ B hml hv
  obtain ⟨rfl, hP, hK, hB⟩ := hv
  have hx := B.exec
  have hb := B.bytes
  have hr := B.returns
  have hts0 := atoms_spec (ws := (.code y_B_requireKind b_B_requireKind 3 none :: wAll)) B.pre
  have hts := hts_all hts0
  have hown : s.vm.findClass "ClearingBooks" = some m.cls := findClass_of_methodNamed B.named
  have hlocks := B.notSynchronized
  have hnh := B.noHandlers (hts0 _ List.mem_cons_self)
  have hout : ∀ pc9 : Nat, ∀ x ∈ c.exceptionTable.toList, covers x pc9 = false := fun pc9 x hx9 => by rw [xt_nil hnh] at hx9; cases hx9
  have hl := lv_entry ([.ref (ad 0), .int x, .int k]) (n := 3) (Nat.le_of_ble_eq_true rfl)
  rw [lg_entry_eq]
  generalize (lg_sl ([.ref (ad 0), .int x, .int k]) ++ List.replicate (3 - (lg_sl ([.ref (ad 0), .int x, .int k])).length) Slot.unset).toArray = ls at hl ⊢
  have hl : lv_has ls 3 [(0, .ref (ad 0)), (1, .int x), (2, .int k)] := hl
  refine lv_aload_n hx hb d_B_requireKind_0 rfl (lv_at hl 0 rfl) ?_
  refine lv_iload_n hx hb d_B_requireKind_1 rfl (lv_at hl 1 rfl) ?_
  refine ro_call (va_runV (As := [.int x]) (rest := []) ⟨hx, hb, hml, hown, hts⟩ (c_isParty_n l dC dI ad cI cJ n tc ki ra po se bc bs op pr pe pm x hno) (cwV 1 hts (wAll_v kw_205 kw_207 ks_8 kw_1 kw_208) rfl rfl rfl (by decide +kernel) ⟨Nat.le_of_ble_eq_true rfl, Nat.le_of_ble_eq_true rfl⟩) (ro_preV bl_tt hK hP (ci := 0) (q0 := 0) rfl rfl (fun _ _ _ => trivial)) rfl rfl hl.1 rfl (lv_room (Nat.le_of_ble_eq_true rfl)) d_B_requireKind_2 ⟨Nat.le_of_ble_eq_true rfl, Nat.le_of_ble_eq_true rfl⟩) ?_
  refine W.eq (g2 := F0 m 5 ls [.int (nI 0)]) rfl ?_
  refine lv_if_eq (tgt := 18) hx hb d_B_requireKind_5 (by decide) (fun c1 => ?_) (fun c1 => ?_)
  · obtain ⟨sa, hsa⟩ := hB.2.1 _ (List.mem_of_getElem? (l := cb_ks) (i := 2) rfl)
    exact xt_throw (names := ["java/lang/RuntimeException", "java/lang/Exception"]) hx hb hl0 hown (by decide) (by decide) (hts _ kw_104) (hts _ kw_6) hsa (xc_atoms hB hts at_iae) (by rw [hml]; exact hl.1) (Nat.le_refl _) d_B_requireKind_18 d_B_requireKind_21 d_B_requireKind_22 d_B_requireKind_24 d_B_requireKind_27 (hout _) (Nat.le_of_ble_eq_true rfl) (Nat.le_of_ble_eq_true rfl) (Nat.le_of_ble_eq_true rfl) (Nat.le_of_ble_eq_true rfl) hlocks (Nat.le_of_ble_eq_true rfl) (Nat.le_of_ble_eq_true rfl)
  · exact absurd rfl c1
set_option maxHeartbeats 4000000 in
set_option maxRecDepth 100000 in
theorem c_requireKind_tk (l : Launch) (dC : Nat → ClassId) (dI : Nat → Nat → Nat) (ad : Nat → Nat) (cI cJ : ClassId) (n tc : Nat) (ki ra : Nat → Int32) (po se : Nat → Int64) (bc : Nat → Int32) (bs op : Nat → Int64) (pr pe : Nat → Int32) (pm : Nat → Int64) (j : Nat) (k : Int32) (hj : j < n) (hn : n ≤ 15) (hk : ¬ ki j = k) (hl0 : l.stackTraces = false) : xt_Met l y_B_requireKind (.code y_B_requireKind b_B_requireKind 3 none :: wAll) ({ frames := 6, cells := 1, slots := 6, locals := 90 } : Room) (ro_P [.ref (ad 0), .int (nI j), .int k] (dC, dI) vwCl [(cI, .int), (cJ, .long)] (cb_w ad cI cJ n tc ki ra po se bc bs op pr pe pm) (xc_ok "ClearingBooks" cb_ks)) "java/lang/IllegalArgumentException" 1 6 := by
  refine xt_ofW (cc := b_B_requireKind) (maxL := 3) (ret := none) (by decide) rfl ?_
  intro p e s m args below meth c s₁ B hml hv
  obtain ⟨rfl, hP, hK, hB⟩ := hv
  have hx := B.exec
  have hb := B.bytes
  have hr := B.returns
  have hts0 := atoms_spec (ws := (.code y_B_requireKind b_B_requireKind 3 none :: wAll)) B.pre
  have hts := hts_all hts0
  have hown : s.vm.findClass "ClearingBooks" = some m.cls := findClass_of_methodNamed B.named
  have hlocks := B.notSynchronized
  have hnh := B.noHandlers (hts0 _ List.mem_cons_self)
  have hout : ∀ pc9 : Nat, ∀ x ∈ c.exceptionTable.toList, covers x pc9 = false := fun pc9 x hx9 => by rw [xt_nil hnh] at hx9; cases hx9
  have hl := lv_entry ([.ref (ad 0), .int (nI j), .int k]) (n := 3) (Nat.le_of_ble_eq_true rfl)
  rw [lg_entry_eq]
  generalize (lg_sl ([.ref (ad 0), .int (nI j), .int k]) ++ List.replicate (3 - (lg_sl ([.ref (ad 0), .int (nI j), .int k])).length) Slot.unset).toArray = ls at hl ⊢
  have hl : lv_has ls 3 [(0, .ref (ad 0)), (1, .int (nI j)), (2, .int k)] := hl
  refine lv_aload_n hx hb d_B_requireKind_0 rfl (lv_at hl 0 rfl) ?_
  refine lv_iload_n hx hb d_B_requireKind_1 rfl (lv_at hl 1 rfl) ?_
  refine ro_call (va_runV (As := [.int (nI j)]) (rest := []) ⟨hx, hb, hml, hown, hts⟩ (c_isParty_y l dC dI ad cI cJ n tc ki ra po se bc bs op pr pe pm j hj hn) (cwV 1 hts (wAll_v kw_205 kw_207 ks_8 kw_1 kw_208) rfl rfl rfl (by decide +kernel) ⟨Nat.le_of_ble_eq_true rfl, Nat.le_of_ble_eq_true rfl⟩) (ro_preV bl_tt hK hP (ci := 0) (q0 := 0) rfl rfl (fun _ _ _ => trivial)) rfl rfl hl.1 rfl (lv_room (Nat.le_of_ble_eq_true rfl)) d_B_requireKind_2 ⟨Nat.le_of_ble_eq_true rfl, Nat.le_of_ble_eq_true rfl⟩) ?_
  refine W.eq (g2 := F0 m 5 ls [.int (nI 1)]) rfl ?_
  refine lv_if_eq (tgt := 18) hx hb d_B_requireKind_5 (by decide) (fun c1 => ?_) (fun c1 => ?_)
  · exact absurd c1 (by decide)
  · refine lv_aload_n hx hb d_B_requireKind_8 rfl (lv_at hl 0 rfl) ?_
    refine va_get (D := (dC, dI)) (ci := 0) (v := .ref (ad 1)) (C := "ClearingBooks") (T := T_B) (N := 12) hx hb hts wi_B hown hK hP 0 rfl rfl 1 (by decide) (hts _ kw_18) (fun _ h9 => h9) rfl d_B_requireKind_9 ?_
    refine lv_iload_n hx hb d_B_requireKind_12 rfl (lv_at hl 1 rfl) ?_
    refine xa_iaload (f := ki) hx hb hK hP 1 0 rfl rfl (j := j) (by omega) (by decide) d_B_requireKind_13 ?_
    refine lv_iload_n hx hb d_B_requireKind_14 rfl (lv_at hl 2 rfl) ?_
    refine lv_icmp_eq (tgt := 28) hx hb d_B_requireKind_15 (by decide) (fun c2 => ?_) (fun c2 => ?_)
    · exact absurd c2 hk
    · obtain ⟨sa, hsa⟩ := hB.2.1 _ (List.mem_of_getElem? (l := cb_ks) (i := 2) rfl)
      exact xt_throw (names := ["java/lang/RuntimeException", "java/lang/Exception"]) hx hb hl0 hown (by decide) (by decide) (hts _ kw_104) (hts _ kw_6) hsa (xc_atoms hB hts at_iae) (by rw [hml]; exact hl.1) (Nat.le_refl _) d_B_requireKind_18 d_B_requireKind_21 d_B_requireKind_22 d_B_requireKind_24 d_B_requireKind_27 (hout _) (Nat.le_of_ble_eq_true rfl) (Nat.le_of_ble_eq_true rfl) (Nat.le_of_ble_eq_true rfl) (Nat.le_of_ble_eq_true rfl) hlocks (Nat.le_of_ble_eq_true rfl) (Nat.le_of_ble_eq_true rfl)
/-- there is such a party of this kind -/
def is_k (n : Nat) (ki : Nat → Int32) (x k : Int32) : Prop := ∃ j, j < n ∧ x = nI j ∧ ki j = k
set_option maxHeartbeats 4000000 in
set_option maxRecDepth 100000 in
theorem c_requireKind_t (l : Launch) (dC : Nat → ClassId) (dI : Nat → Nat → Nat) (ad : Nat → Nat) (cI cJ : ClassId) (n tc : Nat) (ki ra : Nat → Int32) (po se : Nat → Int64) (bc : Nat → Int32) (bs op : Nat → Int64) (pr pe : Nat → Int32) (pm : Nat → Int64) (x k : Int32) (hn : n ≤ 15) (hno : ¬ is_k n ki x k) (hl0 : l.stackTraces = false) : xt_Met l y_B_requireKind (.code y_B_requireKind b_B_requireKind 3 none :: wAll) ({ frames := 6, cells := 1, slots := 6, locals := 90 } : Room) (ro_P [.ref (ad 0), .int x, .int k] (dC, dI) vwCl [(cI, .int), (cJ, .long)] (cb_w ad cI cJ n tc ki ra po se bc bs op pr pe pm) (xc_ok "ClearingBooks" cb_ks)) "java/lang/IllegalArgumentException" 1 6 := by
  by_cases h : ¬ x < 0 ∧ x < nI n
  · obtain ⟨j, hj, rfl⟩ := nI_of h.1
    have hjn : j < n := (nI_ltI hj (by omega)).mp h.2
    exact c_requireKind_tk l dC dI ad cI cJ n tc ki ra po se bc bs op pr pe pm j k hjn hn (fun h9 => hno ⟨j, hjn, rfl, h9⟩) hl0
  · exact c_requireKind_tn l dC dI ad cI cJ n tc ki ra po se bc bs op pr pe pm x k h hl0
set_option maxHeartbeats 4000000 in
set_option maxRecDepth 100000 in
theorem c_requireAmount_y (l : Launch) (dC : Nat → ClassId) (dI : Nat → Nat → Nat) (ad : Nat → Nat) (cI cJ : ClassId) (n tc : Nat) (ki ra : Nat → Int32) (po se : Nat → Int64) (bc : Nat → Int32) (bs op : Nat → Int64) (pr pe : Nat → Int32) (pm : Nat → Int64) (x k : Int64) (h1 : ¬ x < k) (h2 : ¬ 1000000000000 < x) : Met l y_B_requireAmount (.code y_B_requireAmount b_B_requireAmount 4 none :: wAll) ({ frames := 0, cells := 0, slots := 0, locals := 0 } : Room) (ro_P [.long x, .long k] (dC, dI) vwCl [(cI, .int), (cJ, .long)] (cb_w ad cI cJ n tc ki ra po se bc bs op pr pe pm) (fun _ => True)) (ro_Q none) 0 0 (fun _ => False) := by
  refine Met.ofW (cc := b_B_requireAmount) (maxL := 4) (ret := none) (by decide) rfl ?_
  intro p e s m args below meth c s₁ B hml hv
  obtain ⟨rfl, hP, hK, hB⟩ := hv
  have hx := B.exec
  have hb := B.bytes
  have hr := B.returns
  have hts0 := atoms_spec (ws := (.code y_B_requireAmount b_B_requireAmount 4 none :: wAll)) B.pre
  have hts := hts_all hts0
  have hown : s.vm.findClass "ClearingBooks" = some m.cls := findClass_of_methodNamed B.named
  have hlocks := B.notSynchronized
  have hl := lv_entry ([.long x, .long k]) (n := 4) (Nat.le_of_ble_eq_true rfl)
  rw [lg_entry_eq]
  generalize (lg_sl ([.long x, .long k]) ++ List.replicate (4 - (lg_sl ([.long x, .long k])).length) Slot.unset).toArray = ls at hl ⊢
  have hl : lv_has ls 4 [(0, .long x), (2, .long k)] := hl
  refine lv_lload_n hx hb d_B_requireAmount_0 rfl (lv_at hl 0 rfl) ?_
  refine lv_lload_n hx hb d_B_requireAmount_1 rfl (lv_at hl 1 rfl) ?_
  refine W.lcmp hx hb d_B_requireAmount_2 ?_
  refine lv_if_lt (tgt := 14) hx hb d_B_requireAmount_3 (by decide) (fun c1 => ?_) (fun c1 => ?_)
  · replace c1 := (lg_cmp_lt _ _).mp c1
    exact absurd c1 h1
  · replace c1 := mt (lg_cmp_lt _ _).mpr c1
    refine lv_lload_n hx hb d_B_requireAmount_6 rfl (lv_at hl 0 rfl) ?_
    refine lv_ldc2 (v := 1000000000000) hx hb hown (hts _ kw_213) d_B_requireAmount_7 ?_
    refine W.lcmp hx hb d_B_requireAmount_10 ?_
    refine lv_if_le (tgt := 24) hx hb d_B_requireAmount_11 (by decide) (fun c2 => ?_) (fun c2 => ?_)
    · replace c2 := (lg_cmp_le _ _).mp c2
      exact W.vret hx hb hr (fun t ht hW => ⟨rfl, ht⟩) (fun q hq => by cases hq) d_B_requireAmount_24
    · replace c2 := mt (lg_cmp_le _ _).mpr c2
      exact absurd (Int64.not_le.mp c2) h2
set_option maxHeartbeats 4000000 in
set_option maxRecDepth 100000 in
theorem c_requireAmount_t (l : Launch) (dC : Nat → ClassId) (dI : Nat → Nat → Nat) (ad : Nat → Nat) (cI cJ : ClassId) (n tc : Nat) (ki ra : Nat → Int32) (po se : Nat → Int64) (bc : Nat → Int32) (bs op : Nat → Int64) (pr pe : Nat → Int32) (pm : Nat → Int64) (x k : Int64) (hno : ¬ (¬ x < k ∧ ¬ 1000000000000 < x)) (hl0 : l.stackTraces = false) : xt_Met l y_B_requireAmount (.code y_B_requireAmount b_B_requireAmount 4 none :: wAll) ({ frames := 6, cells := 1, slots := 6, locals := 90 } : Room) (ro_P [.long x, .long k] (dC, dI) vwCl [(cI, .int), (cJ, .long)] (cb_w ad cI cJ n tc ki ra po se bc bs op pr pe pm) (xc_ok "ClearingBooks" cb_ks)) "java/lang/IllegalArgumentException" 1 6 := by
  refine xt_ofW (cc := b_B_requireAmount) (maxL := 4) (ret := none) (by decide) rfl ?_
  intro p e s m args below meth c s₁ B hml hv
  obtain ⟨rfl, hP, hK, hB⟩ := hv
  have hx := B.exec
  have hb := B.bytes
  have hr := B.returns
  have hts0 := atoms_spec (ws := (.code y_B_requireAmount b_B_requireAmount 4 none :: wAll)) B.pre
  have hts := hts_all hts0
  have hown : s.vm.findClass "ClearingBooks" = some m.cls := findClass_of_methodNamed B.named
  have hlocks := B.notSynchronized
  have hnh := B.noHandlers (hts0 _ List.mem_cons_self)
  have hout : ∀ pc9 : Nat, ∀ x ∈ c.exceptionTable.toList, covers x pc9 = false := fun pc9 x hx9 => by rw [xt_nil hnh] at hx9; cases hx9
  have hl := lv_entry ([.long x, .long k]) (n := 4) (Nat.le_of_ble_eq_true rfl)
  rw [lg_entry_eq]
  generalize (lg_sl ([.long x, .long k]) ++ List.replicate (4 - (lg_sl ([.long x, .long k])).length) Slot.unset).toArray = ls at hl ⊢
  have hl : lv_has ls 4 [(0, .long x), (2, .long k)] := hl
  refine lv_lload_n hx hb d_B_requireAmount_0 rfl (lv_at hl 0 rfl) ?_
  refine lv_lload_n hx hb d_B_requireAmount_1 rfl (lv_at hl 1 rfl) ?_
  refine W.lcmp hx hb d_B_requireAmount_2 ?_
  refine lv_if_lt (tgt := 14) hx hb d_B_requireAmount_3 (by decide) (fun c1 => ?_) (fun c1 => ?_)
  · replace c1 := (lg_cmp_lt _ _).mp c1
    obtain ⟨sa, hsa⟩ := hB.2.1 _ (List.mem_of_getElem? (l := cb_ks) (i := 3) rfl)
    exact xt_throw (names := ["java/lang/RuntimeException", "java/lang/Exception"]) hx hb hl0 hown (by decide) (by decide) (hts _ kw_104) (hts _ kw_6) hsa (xc_atoms hB hts at_iae) (by rw [hml]; exact hl.1) (Nat.le_refl _) d_B_requireAmount_14 d_B_requireAmount_17 d_B_requireAmount_18 d_B_requireAmount_20 d_B_requireAmount_23 (hout _) (Nat.le_of_ble_eq_true rfl) (Nat.le_of_ble_eq_true rfl) (Nat.le_of_ble_eq_true rfl) (Nat.le_of_ble_eq_true rfl) hlocks (Nat.le_of_ble_eq_true rfl) (Nat.le_of_ble_eq_true rfl)
  · replace c1 := mt (lg_cmp_lt _ _).mpr c1
    refine lv_lload_n hx hb d_B_requireAmount_6 rfl (lv_at hl 0 rfl) ?_
    refine lv_ldc2 (v := 1000000000000) hx hb hown (hts _ kw_213) d_B_requireAmount_7 ?_
    refine W.lcmp hx hb d_B_requireAmount_10 ?_
    refine lv_if_le (tgt := 24) hx hb d_B_requireAmount_11 (by decide) (fun c2 => ?_) (fun c2 => ?_)
    · replace c2 := (lg_cmp_le _ _).mp c2
      exact absurd ⟨c1, Int64.not_lt.mpr c2⟩ hno
    · replace c2 := mt (lg_cmp_le _ _).mpr c2
      obtain ⟨sa, hsa⟩ := hB.2.1 _ (List.mem_of_getElem? (l := cb_ks) (i := 3) rfl)
      exact xt_throw (names := ["java/lang/RuntimeException", "java/lang/Exception"]) hx hb hl0 hown (by decide) (by decide) (hts _ kw_104) (hts _ kw_6) hsa (xc_atoms hB hts at_iae) (by rw [hml]; exact hl.1) (Nat.le_refl _) d_B_requireAmount_14 d_B_requireAmount_17 d_B_requireAmount_18 d_B_requireAmount_20 d_B_requireAmount_23 (hout _) (Nat.le_of_ble_eq_true rfl) (Nat.le_of_ble_eq_true rfl) (Nat.le_of_ble_eq_true rfl) (Nat.le_of_ble_eq_true rfl) hlocks (Nat.le_of_ble_eq_true rfl) (Nat.le_of_ble_eq_true rfl)
set_option maxHeartbeats 4000000 in
set_option maxRecDepth 100000 in
theorem c_partRoundedDown (l : Launch) (dC : Nat → ClassId) (dI : Nat → Nat → Nat) (ad : Nat → Nat) (cI cJ : ClassId) (n tc : Nat) (ki ra : Nat → Int32) (po se : Nat → Int64) (bc : Nat → Int32) (bs op : Nat → Int64) (pr pe : Nat → Int32) (pm : Nat → Int64) (x : Int64) (k : Int32) : Met l y_B_partRoundedDown (.code y_B_partRoundedDown b_B_partRoundedDown 3 (some .long) :: wAll) ({ frames := 0, cells := 0, slots := 0, locals := 0 } : Room) (ro_P [.long x, .int k] (dC, dI) vwCl [(cI, .int), (cJ, .long)] (cb_w ad cI cJ n tc ki ra po se bc bs op pr pe pm) (fun _ => True)) (ro_Q (some (.long (x * k.toInt64 / 10000)))) 0 0 (fun _ => False) := by
  refine Met.ofW (cc := b_B_partRoundedDown) (maxL := 3) (ret := (some .long)) (by decide) rfl ?_
  intro p e s m args below meth c s₁ B hml hv
  obtain ⟨rfl, hP, hK, hB⟩ := hv
  have hx := B.exec
  have hb := B.bytes
  have hr := B.returns
  have hts0 := atoms_spec (ws := (.code y_B_partRoundedDown b_B_partRoundedDown 3 (some .long) :: wAll)) B.pre
  have hts := hts_all hts0
  have hown : s.vm.findClass "ClearingBooks" = some m.cls := findClass_of_methodNamed B.named
  have hlocks := B.notSynchronized
  have hl := lv_entry ([.long x, .int k]) (n := 3) (Nat.le_of_ble_eq_true rfl)
  rw [lg_entry_eq]
  generalize (lg_sl ([.long x, .int k]) ++ List.replicate (3 - (lg_sl ([.long x, .int k])).length) Slot.unset).toArray = ls at hl ⊢
  have hl : lv_has ls 3 [(0, .long x), (2, .int k)] := hl
  refine lv_lload_n hx hb d_B_partRoundedDown_0 rfl (lv_at hl 0 rfl) ?_
  refine lv_iload_n hx hb d_B_partRoundedDown_1 rfl (lv_at hl 1 rfl) ?_
  refine lv_i2l (v := k.toInt64) hx hb d_B_partRoundedDown_2 rfl ?_
  refine lv_lmul hx hb d_B_partRoundedDown_3 ?_
  refine lv_ldc2 (v := 10000) hx hb hown (hts _ kw_218) d_B_partRoundedDown_4 ?_
  refine lv_ldiv hx hb d_B_partRoundedDown_7 (by decide) ?_
  exact W.lret (v := (x * k.toInt64) / 10000) hx hb hr (fun t ht hW => ⟨rfl, ht⟩) (fun q hq => by cases hq) d_B_partRoundedDown_8
set_option maxHeartbeats 4000000 in
set_option maxRecDepth 100000 in
theorem c_partRoundedUp (l : Launch) (dC : Nat → ClassId) (dI : Nat → Nat → Nat) (ad : Nat → Nat) (cI cJ : ClassId) (n tc : Nat) (ki ra : Nat → Int32) (po se : Nat → Int64) (bc : Nat → Int32) (bs op : Nat → Int64) (pr pe : Nat → Int32) (pm : Nat → Int64) (x : Int64) (k : Int32) : Met l y_B_partRoundedUp (.code y_B_partRoundedUp b_B_partRoundedUp 3 (some .long) :: wAll) ({ frames := 0, cells := 0, slots := 0, locals := 0 } : Room) (ro_P [.long x, .int k] (dC, dI) vwCl [(cI, .int), (cJ, .long)] (cb_w ad cI cJ n tc ki ra po se bc bs op pr pe pm) (fun _ => True)) (ro_Q (some (.long ((x * k.toInt64 + 10000 - 1) / 10000)))) 0 0 (fun _ => False) := by
  refine Met.ofW (cc := b_B_partRoundedUp) (maxL := 3) (ret := (some .long)) (by decide) rfl ?_
  intro p e s m args below meth c s₁ B hml hv
  obtain ⟨rfl, hP, hK, hB⟩ := hv
  have hx := B.exec
  have hb := B.bytes
  have hr := B.returns
  have hts0 := atoms_spec (ws := (.code y_B_partRoundedUp b_B_partRoundedUp 3 (some .long) :: wAll)) B.pre
  have hts := hts_all hts0
  have hown : s.vm.findClass "ClearingBooks" = some m.cls := findClass_of_methodNamed B.named
  have hlocks := B.notSynchronized
  have hl := lv_entry ([.long x, .int k]) (n := 3) (Nat.le_of_ble_eq_true rfl)
  rw [lg_entry_eq]
  generalize (lg_sl ([.long x, .int k]) ++ List.replicate (3 - (lg_sl ([.long x, .int k])).length) Slot.unset).toArray = ls at hl ⊢
  have hl : lv_has ls 3 [(0, .long x), (2, .int k)] := hl
  refine lv_lload_n hx hb d_B_partRoundedUp_0 rfl (lv_at hl 0 rfl) ?_
  refine lv_iload_n hx hb d_B_partRoundedUp_1 rfl (lv_at hl 1 rfl) ?_
  refine lv_i2l (v := k.toInt64) hx hb d_B_partRoundedUp_2 rfl ?_
  refine lv_lmul hx hb d_B_partRoundedUp_3 ?_
  refine lv_ldc2 (v := 10000) hx hb hown (hts _ kw_218) d_B_partRoundedUp_4 ?_
  refine lv_ladd hx hb d_B_partRoundedUp_7 ?_
  refine lv_lconst (v := 1) hx hb d_B_partRoundedUp_8 (by decide) ?_
  refine lv_lsub hx hb d_B_partRoundedUp_9 ?_
  refine lv_ldc2 (v := 10000) hx hb hown (hts _ kw_218) d_B_partRoundedUp_10 ?_
  refine lv_ldiv hx hb d_B_partRoundedUp_13 (by decide) ?_
  exact W.lret (v := (((x * k.toInt64) + 10000) - 1) / 10000) hx hb hr (fun t ht hW => ⟨rfl, ht⟩) (fun q hq => by cases hq) d_B_partRoundedUp_14
set_option maxHeartbeats 4000000 in
set_option maxRecDepth 100000 in
theorem c_leastOpen (l : Launch) (dC : Nat → ClassId) (dI : Nat → Nat → Nat) (ad : Nat → Nat) (cI cJ : ClassId) (n tc : Nat) (ki ra : Nat → Int32) (po se : Nat → Int64) (bc : Nat → Int32) (bs op : Nat → Int64) (pr pe : Nat → Int32) (pm : Nat → Int64) (h1 : 1 ≤ n) (hn : n ≤ 15) : Met l y_B_leastOpen (.code y_B_leastOpen b_B_leastOpen 3 (some .int) :: wAll) ({ frames := 0, cells := 0, slots := 0, locals := 0 } : Room) (ro_P [.ref (ad 0)] (dC, dI) vwCl [(cI, .int), (cJ, .long)] (cb_w ad cI cJ n tc ki ra po se bc bs op pr pe pm) (fun _ => True)) (ro_Q (some (.int (nI (am op (n - 1)))))) 0 0 (fun _ => False) := by
  refine Met.ofW (cc := b_B_leastOpen) (maxL := 3) (ret := (some .int)) (by decide) rfl ?_
  intro p e s m args below meth c s₁ B hml hv
  obtain ⟨rfl, hP, hK, hB⟩ := hv
  have hx := B.exec
  have hb := B.bytes
  have hr := B.returns
  have hts0 := atoms_spec (ws := (.code y_B_leastOpen b_B_leastOpen 3 (some .int) :: wAll)) B.pre
  have hts := hts_all hts0
  have hown : s.vm.findClass "ClearingBooks" = some m.cls := findClass_of_methodNamed B.named
  have hlocks := B.notSynchronized
  have hl := lv_entry ([.ref (ad 0)]) (n := 3) (Nat.le_of_ble_eq_true rfl)
  rw [lg_entry_eq]
  generalize (lg_sl ([.ref (ad 0)]) ++ List.replicate (3 - (lg_sl ([.ref (ad 0)])).length) Slot.unset).toArray = ls at hl ⊢
  have hl : lv_has ls 3 [(0, .ref (ad 0))] := hl
  refine lv_iconst (v := nI 0) hx hb d_B_leastOpen_0 (by decide) ?_
  refine lv_istore_n (lv' := [(1, .int (nI 0)), (0, .ref (ad 0))]) hx hb d_B_leastOpen_1 rfl hl (by decide) rfl (fun ls hl => ?_)
  refine lv_iconst (v := nI 1) hx hb d_B_leastOpen_2 (by decide) ?_
  refine lv_istore_n (lv' := [(2, .int (nI 1)), (1, .int (nI 0)), (0, .ref (ad 0))]) hx hb d_B_leastOpen_3 rfl hl (by decide) rfl (fun ls hl => ?_)
  have loop : ∀ (k i : Nat) (ls : Array Slot), i + 1 + k = n → lv_has ls 3 [(0, .ref (ad 0)), (1, .int (nI (am op i))), (2, .int (nI (i + 1)))] → W p l e (headSpec (.code y_B_leastOpen b_B_leastOpen 3 (some .int) :: wAll) ({ frames := 0, cells := 0, slots := 0, locals := 0 } : Room)).room s m ([.ref (ad 0)] : List Value).toArray below meth c s.heap [] 0 0 (MQ below (ro_Q (some (.int (nI (am op (n - 1)))))) ([.ref (ad 0)] : List Value).toArray s 0 0 (fun _ => False)) (F0 m 4 ls []) := by
    intro k
    induction k with
    | zero =>
      intro i ls hi hl
      have h9 := am_le op i
      refine lv_iload_n hx hb d_B_leastOpen_4 rfl (lv_at hl 2 rfl) ?_
      refine lv_aload_n hx hb d_B_leastOpen_5 rfl (lv_at hl 0 rfl) ?_
      refine va_get (D := (dC, dI)) (ci := 0) (v := .int (nI n)) (C := "ClearingBooks") (T := T_B) (N := 12) hx hb hts wi_B hown hK hP 0 rfl rfl 0 (by decide) (hts _ kw_17) (fun _ h9 => h9) rfl d_B_leastOpen_6 ?_
      refine lv_icmp_ge (tgt := 36) hx hb d_B_leastOpen_9 (by decide) (fun c51 => ?_) (fun c51 => ?_)
      · replace c51 := (nI_leI (by omega) (by omega)).mp c51
        refine lv_iload_n hx hb d_B_leastOpen_36 rfl (lv_at hl 1 rfl) ?_
        exact W.iret (v := nI (am op i)) hx hb hr (fun t ht hW => ⟨by rw [show n - 1 = i by omega], ht⟩) (fun q hq => by cases hq) d_B_leastOpen_37
      · replace c51 := mt (nI_leI (by omega) (by omega)).mpr c51
        exfalso; omega
    | succ k ih =>
      intro i ls hi hl
      have h9 := am_le op i
      refine lv_iload_n hx hb d_B_leastOpen_4 rfl (lv_at hl 2 rfl) ?_
      refine lv_aload_n hx hb d_B_leastOpen_5 rfl (lv_at hl 0 rfl) ?_
      refine va_get (D := (dC, dI)) (ci := 0) (v := .int (nI n)) (C := "ClearingBooks") (T := T_B) (N := 12) hx hb hts wi_B hown hK hP 0 rfl rfl 0 (by decide) (hts _ kw_17) (fun _ h9 => h9) rfl d_B_leastOpen_6 ?_
      refine lv_icmp_ge (tgt := 36) hx hb d_B_leastOpen_9 (by decide) (fun c51 => ?_) (fun c51 => ?_)
      · replace c51 := (nI_leI (by omega) (by omega)).mp c51
        exfalso; omega
      · replace c51 := mt (nI_leI (by omega) (by omega)).mpr c51
        refine lv_aload_n hx hb d_B_leastOpen_12 rfl (lv_at hl 0 rfl) ?_
        refine va_get (D := (dC, dI)) (ci := 0) (v := .ref (ad 7)) (C := "ClearingBooks") (T := T_B) (N := 12) hx hb hts wi_B hown hK hP 0 rfl rfl 7 (by decide) (hts _ kw_24) (fun _ h9 => h9) rfl d_B_leastOpen_13 ?_
        refine lv_iload_n hx hb d_B_leastOpen_16 rfl (lv_at hl 2 rfl) ?_
        refine xa_laload (f := op) hx hb hK hP 7 1 rfl rfl (j := i + 1) (by omega) (by decide) d_B_leastOpen_17 ?_
        refine lv_aload_n hx hb d_B_leastOpen_18 rfl (lv_at hl 0 rfl) ?_
        refine va_get (D := (dC, dI)) (ci := 0) (v := .ref (ad 7)) (C := "ClearingBooks") (T := T_B) (N := 12) hx hb hts wi_B hown hK hP 0 rfl rfl 7 (by decide) (hts _ kw_24) (fun _ h9 => h9) rfl d_B_leastOpen_19 ?_
        refine lv_iload_n hx hb d_B_leastOpen_22 rfl (lv_at hl 1 rfl) ?_
        refine xa_laload (f := op) hx hb hK hP 7 1 rfl rfl (j := am op i) (by omega) (by decide) d_B_leastOpen_23 ?_
        refine W.lcmp hx hb d_B_leastOpen_24 ?_
        refine lv_if_ge (tgt := 30) hx hb d_B_leastOpen_25 (by decide) (fun c52 => ?_) (fun c52 => ?_)
        · replace c52 := (lg_cmp_ge _ _).mp c52
          refine lv_iinc (v := nI (i + 1 + 1)) (lv' := [(2, .int (nI (i + 1 + 1))), (0, .ref (ad 0)), (1, .int (nI (am op i)))]) hx hb d_B_leastOpen_30 hl (k := 2) rfl (nI_1 (i + 1)) (by decide) rfl (fun ls hl => ?_)
          refine lv_goto (tgt := 4) hx hb d_B_leastOpen_33 (by decide) ?_
          exact ih (i + 1) ls (by omega) (by rw [am_y c52]; exact lv_sub hl [1, 2, 0] rfl)
        · replace c52 := mt (lg_cmp_ge _ _).mpr c52
          refine lv_iload_n hx hb d_B_leastOpen_28 rfl (lv_at hl 2 rfl) ?_
          refine lv_istore_n (lv' := [(1, .int (nI (i + 1))), (0, .ref (ad 0)), (2, .int (nI (i + 1)))]) hx hb d_B_leastOpen_29 rfl hl (by decide) rfl (fun ls hl => ?_)
          refine lv_iinc (v := nI (i + 1 + 1)) (lv' := [(2, .int (nI (i + 1 + 1))), (1, .int (nI (i + 1))), (0, .ref (ad 0))]) hx hb d_B_leastOpen_30 hl (k := 2) rfl (nI_1 (i + 1)) (by decide) rfl (fun ls hl => ?_)
          refine lv_goto (tgt := 4) hx hb d_B_leastOpen_33 (by decide) ?_
          exact ih (i + 1) ls (by omega) (by rw [am_n c52]; exact lv_sub hl [2, 1, 0] rfl)
  exact loop (n - 1) 0 ls (by omega) (lv_sub hl [2, 1, 0] rfl)
set_option maxHeartbeats 4000000 in
set_option maxRecDepth 100000 in
theorem c_greatestOpen (l : Launch) (dC : Nat → ClassId) (dI : Nat → Nat → Nat) (ad : Nat → Nat) (cI cJ : ClassId) (n tc : Nat) (ki ra : Nat → Int32) (po se : Nat → Int64) (bc : Nat → Int32) (bs op : Nat → Int64) (pr pe : Nat → Int32) (pm : Nat → Int64) (h1 : 1 ≤ n) (hn : n ≤ 15) : Met l y_B_greatestOpen (.code y_B_greatestOpen b_B_greatestOpen 3 (some .int) :: wAll) ({ frames := 0, cells := 0, slots := 0, locals := 0 } : Room) (ro_P [.ref (ad 0)] (dC, dI) vwCl [(cI, .int), (cJ, .long)] (cb_w ad cI cJ n tc ki ra po se bc bs op pr pe pm) (fun _ => True)) (ro_Q (some (.int (nI (ax op (n - 1)))))) 0 0 (fun _ => False) := by
  refine Met.ofW (cc := b_B_greatestOpen) (maxL := 3) (ret := (some .int)) (by decide) rfl ?_
  intro p e s m args below meth c s₁ B hml hv
  obtain ⟨rfl, hP, hK, hB⟩ := hv
  have hx := B.exec
  have hb := B.bytes
  have hr := B.returns
  have hts0 := atoms_spec (ws := (.code y_B_greatestOpen b_B_greatestOpen 3 (some .int) :: wAll)) B.pre
  have hts := hts_all hts0
  have hown : s.vm.findClass "ClearingBooks" = some m.cls := findClass_of_methodNamed B.named
  have hlocks := B.notSynchronized
  have hl := lv_entry ([.ref (ad 0)]) (n := 3) (Nat.le_of_ble_eq_true rfl)
  rw [lg_entry_eq]
  generalize (lg_sl ([.ref (ad 0)]) ++ List.replicate (3 - (lg_sl ([.ref (ad 0)])).length) Slot.unset).toArray = ls at hl ⊢
  have hl : lv_has ls 3 [(0, .ref (ad 0))] := hl
  refine lv_iconst (v := nI 0) hx hb d_B_greatestOpen_0 (by decide) ?_
  refine lv_istore_n (lv' := [(1, .int (nI 0)), (0, .ref (ad 0))]) hx hb d_B_greatestOpen_1 rfl hl (by decide) rfl (fun ls hl => ?_)
  refine lv_iconst (v := nI 1) hx hb d_B_greatestOpen_2 (by decide) ?_
  refine lv_istore_n (lv' := [(2, .int (nI 1)), (1, .int (nI 0)), (0, .ref (ad 0))]) hx hb d_B_greatestOpen_3 rfl hl (by decide) rfl (fun ls hl => ?_)
  have loop : ∀ (k i : Nat) (ls : Array Slot), i + 1 + k = n → lv_has ls 3 [(0, .ref (ad 0)), (1, .int (nI (ax op i))), (2, .int (nI (i + 1)))] → W p l e (headSpec (.code y_B_greatestOpen b_B_greatestOpen 3 (some .int) :: wAll) ({ frames := 0, cells := 0, slots := 0, locals := 0 } : Room)).room s m ([.ref (ad 0)] : List Value).toArray below meth c s.heap [] 0 0 (MQ below (ro_Q (some (.int (nI (ax op (n - 1)))))) ([.ref (ad 0)] : List Value).toArray s 0 0 (fun _ => False)) (F0 m 4 ls []) := by
    intro k
    induction k with
    | zero =>
      intro i ls hi hl
      have h9 := ax_le op i
      refine lv_iload_n hx hb d_B_greatestOpen_4 rfl (lv_at hl 2 rfl) ?_
      refine lv_aload_n hx hb d_B_greatestOpen_5 rfl (lv_at hl 0 rfl) ?_
      refine va_get (D := (dC, dI)) (ci := 0) (v := .int (nI n)) (C := "ClearingBooks") (T := T_B) (N := 12) hx hb hts wi_B hown hK hP 0 rfl rfl 0 (by decide) (hts _ kw_17) (fun _ h9 => h9) rfl d_B_greatestOpen_6 ?_
      refine lv_icmp_ge (tgt := 36) hx hb d_B_greatestOpen_9 (by decide) (fun c51 => ?_) (fun c51 => ?_)
      · replace c51 := (nI_leI (by omega) (by omega)).mp c51
        refine lv_iload_n hx hb d_B_greatestOpen_36 rfl (lv_at hl 1 rfl) ?_
        exact W.iret (v := nI (ax op i)) hx hb hr (fun t ht hW => ⟨by rw [show n - 1 = i by omega], ht⟩) (fun q hq => by cases hq) d_B_greatestOpen_37
      · replace c51 := mt (nI_leI (by omega) (by omega)).mpr c51
        exfalso; omega
    | succ k ih =>
      intro i ls hi hl
      have h9 := ax_le op i
      refine lv_iload_n hx hb d_B_greatestOpen_4 rfl (lv_at hl 2 rfl) ?_
      refine lv_aload_n hx hb d_B_greatestOpen_5 rfl (lv_at hl 0 rfl) ?_
      refine va_get (D := (dC, dI)) (ci := 0) (v := .int (nI n)) (C := "ClearingBooks") (T := T_B) (N := 12) hx hb hts wi_B hown hK hP 0 rfl rfl 0 (by decide) (hts _ kw_17) (fun _ h9 => h9) rfl d_B_greatestOpen_6 ?_
      refine lv_icmp_ge (tgt := 36) hx hb d_B_greatestOpen_9 (by decide) (fun c51 => ?_) (fun c51 => ?_)
      · replace c51 := (nI_leI (by omega) (by omega)).mp c51
        exfalso; omega
      · replace c51 := mt (nI_leI (by omega) (by omega)).mpr c51
        refine lv_aload_n hx hb d_B_greatestOpen_12 rfl (lv_at hl 0 rfl) ?_
        refine va_get (D := (dC, dI)) (ci := 0) (v := .ref (ad 7)) (C := "ClearingBooks") (T := T_B) (N := 12) hx hb hts wi_B hown hK hP 0 rfl rfl 7 (by decide) (hts _ kw_24) (fun _ h9 => h9) rfl d_B_greatestOpen_13 ?_
        refine lv_iload_n hx hb d_B_greatestOpen_16 rfl (lv_at hl 2 rfl) ?_
        refine xa_laload (f := op) hx hb hK hP 7 1 rfl rfl (j := i + 1) (by omega) (by decide) d_B_greatestOpen_17 ?_
        refine lv_aload_n hx hb d_B_greatestOpen_18 rfl (lv_at hl 0 rfl) ?_
        refine va_get (D := (dC, dI)) (ci := 0) (v := .ref (ad 7)) (C := "ClearingBooks") (T := T_B) (N := 12) hx hb hts wi_B hown hK hP 0 rfl rfl 7 (by decide) (hts _ kw_24) (fun _ h9 => h9) rfl d_B_greatestOpen_19 ?_
        refine lv_iload_n hx hb d_B_greatestOpen_22 rfl (lv_at hl 1 rfl) ?_
        refine xa_laload (f := op) hx hb hK hP 7 1 rfl rfl (j := ax op i) (by omega) (by decide) d_B_greatestOpen_23 ?_
        refine W.lcmp hx hb d_B_greatestOpen_24 ?_
        refine lv_if_le (tgt := 30) hx hb d_B_greatestOpen_25 (by decide) (fun c52 => ?_) (fun c52 => ?_)
        · replace c52 := (lg_cmp_le _ _).mp c52
          refine lv_iinc (v := nI (i + 1 + 1)) (lv' := [(2, .int (nI (i + 1 + 1))), (0, .ref (ad 0)), (1, .int (nI (ax op i)))]) hx hb d_B_greatestOpen_30 hl (k := 2) rfl (nI_1 (i + 1)) (by decide) rfl (fun ls hl => ?_)
          refine lv_goto (tgt := 4) hx hb d_B_greatestOpen_33 (by decide) ?_
          exact ih (i + 1) ls (by omega) (by rw [ax_y c52]; exact lv_sub hl [1, 2, 0] rfl)
        · replace c52 := mt (lg_cmp_le _ _).mpr c52
          refine lv_iload_n hx hb d_B_greatestOpen_28 rfl (lv_at hl 2 rfl) ?_
          refine lv_istore_n (lv' := [(1, .int (nI (i + 1))), (0, .ref (ad 0)), (2, .int (nI (i + 1)))]) hx hb d_B_greatestOpen_29 rfl hl (by decide) rfl (fun ls hl => ?_)
          refine lv_iinc (v := nI (i + 1 + 1)) (lv' := [(2, .int (nI (i + 1 + 1))), (1, .int (nI (i + 1))), (0, .ref (ad 0))]) hx hb d_B_greatestOpen_30 hl (k := 2) rfl (nI_1 (i + 1)) (by decide) rfl (fun ls hl => ?_)
          refine lv_goto (tgt := 4) hx hb d_B_greatestOpen_33 (by decide) ?_
          exact ih (i + 1) ls (by omega) (by rw [ax_n c52]; exact lv_sub hl [2, 1, 0] rfl)
  exact loop (n - 1) 0 ls (by omega) (lv_sub hl [2, 1, 0] rfl)
set_option maxHeartbeats 4000000 in
set_option maxRecDepth 100000 in
theorem c_sumOf_po (l : Launch) (dC : Nat → ClassId) (dI : Nat → Nat → Nat) (ad : Nat → Nat) (cI cJ : ClassId) (n tc : Nat) (ki ra : Nat → Int32) (po se : Nat → Int64) (bc : Nat → Int32) (bs op : Nat → Int64) (pr pe : Nat → Int32) (pm : Nat → Int64) (hn : n ≤ 15) : Met l y_B_sumOf (.code y_B_sumOf b_B_sumOf 5 (some .long) :: wAll) ({ frames := 0, cells := 0, slots := 0, locals := 0 } : Room) (ro_P [.ref (ad 0), .ref (ad 3)] (dC, dI) vwCl [(cI, .int), (cJ, .long)] (cb_w ad cI cJ n tc ki ra po se bc bs op pr pe pm) (fun _ => True)) (ro_Q (some (.long (sm po n)))) 0 0 (fun _ => False) := by
  refine Met.ofW (cc := b_B_sumOf) (maxL := 5) (ret := (some .long)) (by decide) rfl ?_
  intro p e s m args below meth c s₁ B hml hv
  obtain ⟨rfl, hP, hK, hB⟩ := hv
  have hx := B.exec
  have hb := B.bytes
  have hr := B.returns
  have hts0 := atoms_spec (ws := (.code y_B_sumOf b_B_sumOf 5 (some .long) :: wAll)) B.pre
  have hts := hts_all hts0
  have hown : s.vm.findClass "ClearingBooks" = some m.cls := findClass_of_methodNamed B.named
  have hlocks := B.notSynchronized
  have hl := lv_entry ([.ref (ad 0), .ref (ad 3)]) (n := 5) (Nat.le_of_ble_eq_true rfl)
  rw [lg_entry_eq]
  generalize (lg_sl ([.ref (ad 0), .ref (ad 3)]) ++ List.replicate (5 - (lg_sl ([.ref (ad 0), .ref (ad 3)])).length) Slot.unset).toArray = ls at hl ⊢
  have hl : lv_has ls 5 [(0, .ref (ad 0)), (1, .ref (ad 3))] := hl
  refine lv_lconst (v := 0) hx hb d_B_sumOf_0 (by decide) ?_
  refine lv_lstore_n (lv' := [(2, .long 0), (0, .ref (ad 0)), (1, .ref (ad 3))]) hx hb d_B_sumOf_1 rfl hl (by decide) rfl (fun ls hl => ?_)
  refine lv_iconst (v := nI 0) hx hb d_B_sumOf_2 (by decide) ?_
  refine lv_istore (lv' := [(4, .int (nI 0)), (2, .long 0), (0, .ref (ad 0)), (1, .ref (ad 3))]) hx hb d_B_sumOf_3 hl (by decide) rfl (fun ls hl => ?_)
  have loop : ∀ (k i : Nat) (ls : Array Slot), i + k = n → lv_has ls 5 [(0, .ref (ad 0)), (1, .ref (ad 3)), (2, .long (sm po i)), (4, .int (nI i))] → W p l e (headSpec (.code y_B_sumOf b_B_sumOf 5 (some .long) :: wAll) ({ frames := 0, cells := 0, slots := 0, locals := 0 } : Room)).room s m ([.ref (ad 0), .ref (ad 3)] : List Value).toArray below meth c s.heap [] 0 0 (MQ below (ro_Q (some (.long (sm po n)))) ([.ref (ad 0), .ref (ad 3)] : List Value).toArray s 0 0 (fun _ => False)) (F0 m 5 ls []) := by
    intro k
    induction k with
    | zero =>
      intro i ls hi hl
      refine lv_iload hx hb d_B_sumOf_5 (lv_at hl 3 rfl) ?_
      refine lv_aload_n hx hb d_B_sumOf_7 rfl (lv_at hl 0 rfl) ?_
      refine va_get (D := (dC, dI)) (ci := 0) (v := .int (nI n)) (C := "ClearingBooks") (T := T_B) (N := 12) hx hb hts wi_B hown hK hP 0 rfl rfl 0 (by decide) (hts _ kw_17) (fun _ h9 => h9) rfl d_B_sumOf_8 ?_
      refine lv_icmp_ge (tgt := 27) hx hb d_B_sumOf_11 (by decide) (fun c51 => ?_) (fun c51 => ?_)
      · replace c51 := (nI_leI (by omega) (by omega)).mp c51
        refine lv_lload_n hx hb d_B_sumOf_27 rfl (lv_at hl 2 rfl) ?_
        exact W.lret (v := sm po i) hx hb hr (fun t ht hW => ⟨by rw [show n = i by omega], ht⟩) (fun q hq => by cases hq) d_B_sumOf_28
      · replace c51 := mt (nI_leI (by omega) (by omega)).mpr c51
        exfalso; omega
    | succ k ih =>
      intro i ls hi hl
      refine lv_iload hx hb d_B_sumOf_5 (lv_at hl 3 rfl) ?_
      refine lv_aload_n hx hb d_B_sumOf_7 rfl (lv_at hl 0 rfl) ?_
      refine va_get (D := (dC, dI)) (ci := 0) (v := .int (nI n)) (C := "ClearingBooks") (T := T_B) (N := 12) hx hb hts wi_B hown hK hP 0 rfl rfl 0 (by decide) (hts _ kw_17) (fun _ h9 => h9) rfl d_B_sumOf_8 ?_
      refine lv_icmp_ge (tgt := 27) hx hb d_B_sumOf_11 (by decide) (fun c51 => ?_) (fun c51 => ?_)
      · replace c51 := (nI_leI (by omega) (by omega)).mp c51
        exfalso; omega
      · replace c51 := mt (nI_leI (by omega) (by omega)).mpr c51
        refine lv_lload_n hx hb d_B_sumOf_14 rfl (lv_at hl 2 rfl) ?_
        refine lv_aload_n hx hb d_B_sumOf_15 rfl (lv_at hl 1 rfl) ?_
        refine lv_iload hx hb d_B_sumOf_16 (lv_at hl 3 rfl) ?_
        refine xa_laload (f := po) hx hb hK hP 3 1 rfl rfl (j := i) (by omega) (by decide) d_B_sumOf_18 ?_
        refine lv_ladd hx hb d_B_sumOf_19 ?_
        refine lv_lstore_n (lv' := [(2, .long ((sm po i) + (po i))), (0, .ref (ad 0)), (1, .ref (ad 3)), (4, .int (nI i))]) hx hb d_B_sumOf_20 rfl hl (by decide) rfl (fun ls hl => ?_)
        refine lv_iinc (v := nI (i + 1)) (lv' := [(4, .int (nI (i + 1))), (2, .long ((sm po i) + (po i))), (0, .ref (ad 0)), (1, .ref (ad 3))]) hx hb d_B_sumOf_21 hl (k := 3) rfl (nI_1 i) (by decide) rfl (fun ls hl => ?_)
        refine lv_goto (tgt := 5) hx hb d_B_sumOf_24 (by decide) ?_
        exact ih (i + 1) ls (by omega) (lv_sub hl [2, 3, 1, 0] rfl)
  exact loop n 0 ls (by omega) (lv_sub hl [2, 3, 1, 0] rfl)
set_option maxHeartbeats 4000000 in
set_option maxRecDepth 100000 in
theorem c_sumOf_se (l : Launch) (dC : Nat → ClassId) (dI : Nat → Nat → Nat) (ad : Nat → Nat) (cI cJ : ClassId) (n tc : Nat) (ki ra : Nat → Int32) (po se : Nat → Int64) (bc : Nat → Int32) (bs op : Nat → Int64) (pr pe : Nat → Int32) (pm : Nat → Int64) (hn : n ≤ 15) : Met l y_B_sumOf (.code y_B_sumOf b_B_sumOf 5 (some .long) :: wAll) ({ frames := 0, cells := 0, slots := 0, locals := 0 } : Room) (ro_P [.ref (ad 0), .ref (ad 4)] (dC, dI) vwCl [(cI, .int), (cJ, .long)] (cb_w ad cI cJ n tc ki ra po se bc bs op pr pe pm) (fun _ => True)) (ro_Q (some (.long (sm se n)))) 0 0 (fun _ => False) := by
  refine Met.ofW (cc := b_B_sumOf) (maxL := 5) (ret := (some .long)) (by decide) rfl ?_
  intro p e s m args below meth c s₁ B hml hv
  obtain ⟨rfl, hP, hK, hB⟩ := hv
  have hx := B.exec
  have hb := B.bytes
  have hr := B.returns
  have hts0 := atoms_spec (ws := (.code y_B_sumOf b_B_sumOf 5 (some .long) :: wAll)) B.pre
  have hts := hts_all hts0
  have hown : s.vm.findClass "ClearingBooks" = some m.cls := findClass_of_methodNamed B.named
  have hlocks := B.notSynchronized
  have hl := lv_entry ([.ref (ad 0), .ref (ad 4)]) (n := 5) (Nat.le_of_ble_eq_true rfl)
  rw [lg_entry_eq]
  generalize (lg_sl ([.ref (ad 0), .ref (ad 4)]) ++ List.replicate (5 - (lg_sl ([.ref (ad 0), .ref (ad 4)])).length) Slot.unset).toArray = ls at hl ⊢
  have hl : lv_has ls 5 [(0, .ref (ad 0)), (1, .ref (ad 4))] := hl
  refine lv_lconst (v := 0) hx hb d_B_sumOf_0 (by decide) ?_
  refine lv_lstore_n (lv' := [(2, .long 0), (0, .ref (ad 0)), (1, .ref (ad 4))]) hx hb d_B_sumOf_1 rfl hl (by decide) rfl (fun ls hl => ?_)
  refine lv_iconst (v := nI 0) hx hb d_B_sumOf_2 (by decide) ?_
  refine lv_istore (lv' := [(4, .int (nI 0)), (2, .long 0), (0, .ref (ad 0)), (1, .ref (ad 4))]) hx hb d_B_sumOf_3 hl (by decide) rfl (fun ls hl => ?_)
  have loop : ∀ (k i : Nat) (ls : Array Slot), i + k = n → lv_has ls 5 [(0, .ref (ad 0)), (1, .ref (ad 4)), (2, .long (sm se i)), (4, .int (nI i))] → W p l e (headSpec (.code y_B_sumOf b_B_sumOf 5 (some .long) :: wAll) ({ frames := 0, cells := 0, slots := 0, locals := 0 } : Room)).room s m ([.ref (ad 0), .ref (ad 4)] : List Value).toArray below meth c s.heap [] 0 0 (MQ below (ro_Q (some (.long (sm se n)))) ([.ref (ad 0), .ref (ad 4)] : List Value).toArray s 0 0 (fun _ => False)) (F0 m 5 ls []) := by
    intro k
    induction k with
    | zero =>
      intro i ls hi hl
      refine lv_iload hx hb d_B_sumOf_5 (lv_at hl 3 rfl) ?_
      refine lv_aload_n hx hb d_B_sumOf_7 rfl (lv_at hl 0 rfl) ?_
      refine va_get (D := (dC, dI)) (ci := 0) (v := .int (nI n)) (C := "ClearingBooks") (T := T_B) (N := 12) hx hb hts wi_B hown hK hP 0 rfl rfl 0 (by decide) (hts _ kw_17) (fun _ h9 => h9) rfl d_B_sumOf_8 ?_
      refine lv_icmp_ge (tgt := 27) hx hb d_B_sumOf_11 (by decide) (fun c51 => ?_) (fun c51 => ?_)
      · replace c51 := (nI_leI (by omega) (by omega)).mp c51
        refine lv_lload_n hx hb d_B_sumOf_27 rfl (lv_at hl 2 rfl) ?_
        exact W.lret (v := sm se i) hx hb hr (fun t ht hW => ⟨by rw [show n = i by omega], ht⟩) (fun q hq => by cases hq) d_B_sumOf_28
      · replace c51 := mt (nI_leI (by omega) (by omega)).mpr c51
        exfalso; omega
    | succ k ih =>
      intro i ls hi hl
      refine lv_iload hx hb d_B_sumOf_5 (lv_at hl 3 rfl) ?_
      refine lv_aload_n hx hb d_B_sumOf_7 rfl (lv_at hl 0 rfl) ?_
      refine va_get (D := (dC, dI)) (ci := 0) (v := .int (nI n)) (C := "ClearingBooks") (T := T_B) (N := 12) hx hb hts wi_B hown hK hP 0 rfl rfl 0 (by decide) (hts _ kw_17) (fun _ h9 => h9) rfl d_B_sumOf_8 ?_
      refine lv_icmp_ge (tgt := 27) hx hb d_B_sumOf_11 (by decide) (fun c51 => ?_) (fun c51 => ?_)
      · replace c51 := (nI_leI (by omega) (by omega)).mp c51
        exfalso; omega
      · replace c51 := mt (nI_leI (by omega) (by omega)).mpr c51
        refine lv_lload_n hx hb d_B_sumOf_14 rfl (lv_at hl 2 rfl) ?_
        refine lv_aload_n hx hb d_B_sumOf_15 rfl (lv_at hl 1 rfl) ?_
        refine lv_iload hx hb d_B_sumOf_16 (lv_at hl 3 rfl) ?_
        refine xa_laload (f := se) hx hb hK hP 4 1 rfl rfl (j := i) (by omega) (by decide) d_B_sumOf_18 ?_
        refine lv_ladd hx hb d_B_sumOf_19 ?_
        refine lv_lstore_n (lv' := [(2, .long ((sm se i) + (se i))), (0, .ref (ad 0)), (1, .ref (ad 4)), (4, .int (nI i))]) hx hb d_B_sumOf_20 rfl hl (by decide) rfl (fun ls hl => ?_)
        refine lv_iinc (v := nI (i + 1)) (lv' := [(4, .int (nI (i + 1))), (2, .long ((sm se i) + (se i))), (0, .ref (ad 0)), (1, .ref (ad 4))]) hx hb d_B_sumOf_21 hl (k := 3) rfl (nI_1 i) (by decide) rfl (fun ls hl => ?_)
        refine lv_goto (tgt := 5) hx hb d_B_sumOf_24 (by decide) ?_
        exact ih (i + 1) ls (by omega) (lv_sub hl [2, 3, 1, 0] rfl)
  exact loop n 0 ls (by omega) (lv_sub hl [2, 3, 1, 0] rfl)
set_option maxHeartbeats 4000000 in
set_option maxRecDepth 100000 in
theorem c_placeOf (l : Launch) (dC : Nat → ClassId) (dI : Nat → Nat → Nat) (ad : Nat → Nat) (cI cJ : ClassId) (n tc : Nat) (ki ra : Nat → Int32) (po se : Nat → Int64) (bc : Nat → Int32) (bs op : Nat → Int64) (pr pe : Nat → Int32) (pm : Nat → Int64) (j : Nat) (hj : j < n) (hn : n ≤ 15) : Met l y_B_placeOf (.code y_B_placeOf b_B_placeOf 5 (some .int) :: wAll) ({ frames := 0, cells := 0, slots := 0, locals := 0 } : Room) (ro_P [.ref (ad 0), .int (nI j)] (dC, dI) vwCl [(cI, .int), (cJ, .long)] (cb_w ad cI cJ n tc ki ra po se bc bs op pr pe pm) (fun _ => True)) (ro_Q (some (.int (nI (pl po j n))))) 0 0 (fun _ => False) := by
  refine Met.ofW (cc := b_B_placeOf) (maxL := 5) (ret := (some .int)) (by decide) rfl ?_
  intro p e s m args below meth c s₁ B hml hv
  obtain ⟨rfl, hP, hK, hB⟩ := hv
  have hx := B.exec
  have hb := B.bytes
  have hr := B.returns
  have hts0 := atoms_spec (ws := (.code y_B_placeOf b_B_placeOf 5 (some .int) :: wAll)) B.pre
  have hts := hts_all hts0
  have hown : s.vm.findClass "ClearingBooks" = some m.cls := findClass_of_methodNamed B.named
  have hlocks := B.notSynchronized
  have hl := lv_entry ([.ref (ad 0), .int (nI j)]) (n := 5) (Nat.le_of_ble_eq_true rfl)
  rw [lg_entry_eq]
  generalize (lg_sl ([.ref (ad 0), .int (nI j)]) ++ List.replicate (5 - (lg_sl ([.ref (ad 0), .int (nI j)])).length) Slot.unset).toArray = ls at hl ⊢
  have hl : lv_has ls 5 [(0, .ref (ad 0)), (1, .int (nI j))] := hl
  refine lv_iconst (v := nI 0) hx hb d_B_placeOf_0 (by decide) ?_
  refine lv_istore_n (lv' := [(2, .int (nI 0)), (0, .ref (ad 0)), (1, .int (nI j))]) hx hb d_B_placeOf_1 rfl hl (by decide) rfl (fun ls hl => ?_)
  refine lv_iconst (v := nI 0) hx hb d_B_placeOf_2 (by decide) ?_
  refine lv_istore_n (lv' := [(3, .int (nI 0)), (2, .int (nI 0)), (0, .ref (ad 0)), (1, .int (nI j))]) hx hb d_B_placeOf_3 rfl hl (by decide) rfl (fun ls hl => ?_)
  have loop : ∀ (k i : Nat) (ls : Array Slot), i + k = n → lv_has ls 5 [(0, .ref (ad 0)), (1, .int (nI j)), (2, .int (nI (pl po j i))), (3, .int (nI i))] → W p l e (headSpec (.code y_B_placeOf b_B_placeOf 5 (some .int) :: wAll) ({ frames := 0, cells := 0, slots := 0, locals := 0 } : Room)).room s m ([.ref (ad 0), .int (nI j)] : List Value).toArray below meth c s.heap [] 0 0 (MQ below (ro_Q (some (.int (nI (pl po j n))))) ([.ref (ad 0), .int (nI j)] : List Value).toArray s 0 0 (fun _ => False)) (F0 m 4 ls []) := by
    intro k
    induction k with
    | zero =>
      intro i ls hi hl
      have h9 := pl_le po j i
      refine lv_iload_n hx hb d_B_placeOf_4 rfl (lv_at hl 3 rfl) ?_
      refine lv_aload_n hx hb d_B_placeOf_5 rfl (lv_at hl 0 rfl) ?_
      refine va_get (D := (dC, dI)) (ci := 0) (v := .int (nI n)) (C := "ClearingBooks") (T := T_B) (N := 12) hx hb hts wi_B hown hK hP 0 rfl rfl 0 (by decide) (hts _ kw_17) (fun _ h9 => h9) rfl d_B_placeOf_6 ?_
      refine lv_icmp_ge (tgt := 70) hx hb d_B_placeOf_9 (by decide) (fun c51 => ?_) (fun c51 => ?_)
      · replace c51 := (nI_leI (by omega) (by omega)).mp c51
        refine lv_iload_n hx hb d_B_placeOf_70 rfl (lv_at hl 2 rfl) ?_
        exact W.iret (v := nI (pl po j i)) hx hb hr (fun t ht hW => ⟨by rw [show n = i by omega], ht⟩) (fun q hq => by cases hq) d_B_placeOf_71
      · replace c51 := mt (nI_leI (by omega) (by omega)).mpr c51
        exfalso; omega
    | succ k ih =>
      intro i ls hi hl
      have h9 := pl_le po j i
      refine lv_iload_n hx hb d_B_placeOf_4 rfl (lv_at hl 3 rfl) ?_
      refine lv_aload_n hx hb d_B_placeOf_5 rfl (lv_at hl 0 rfl) ?_
      refine va_get (D := (dC, dI)) (ci := 0) (v := .int (nI n)) (C := "ClearingBooks") (T := T_B) (N := 12) hx hb hts wi_B hown hK hP 0 rfl rfl 0 (by decide) (hts _ kw_17) (fun _ h9 => h9) rfl d_B_placeOf_6 ?_
      refine lv_icmp_ge (tgt := 70) hx hb d_B_placeOf_9 (by decide) (fun c51 => ?_) (fun c51 => ?_)
      · replace c51 := (nI_leI (by omega) (by omega)).mp c51
        exfalso; omega
      · replace c51 := mt (nI_leI (by omega) (by omega)).mpr c51
        refine lv_aload_n hx hb d_B_placeOf_12 rfl (lv_at hl 0 rfl) ?_
        refine va_get (D := (dC, dI)) (ci := 0) (v := .ref (ad 3)) (C := "ClearingBooks") (T := T_B) (N := 12) hx hb hts wi_B hown hK hP 0 rfl rfl 3 (by decide) (hts _ kw_20) (fun _ h9 => h9) rfl d_B_placeOf_13 ?_
        refine lv_iload_n hx hb d_B_placeOf_16 rfl (lv_at hl 3 rfl) ?_
        refine xa_laload (f := po) hx hb hK hP 3 1 rfl rfl (j := i) (by omega) (by decide) d_B_placeOf_17 ?_
        refine lv_aload_n hx hb d_B_placeOf_18 rfl (lv_at hl 0 rfl) ?_
        refine va_get (D := (dC, dI)) (ci := 0) (v := .ref (ad 3)) (C := "ClearingBooks") (T := T_B) (N := 12) hx hb hts wi_B hown hK hP 0 rfl rfl 3 (by decide) (hts _ kw_20) (fun _ h9 => h9) rfl d_B_placeOf_19 ?_
        refine lv_iload_n hx hb d_B_placeOf_22 rfl (lv_at hl 1 rfl) ?_
        refine xa_laload (f := po) hx hb hK hP 3 1 rfl rfl (j := j) (by omega) (by decide) d_B_placeOf_23 ?_
        refine W.lcmp hx hb d_B_placeOf_24 ?_
        refine lv_if_ne (tgt := 37) hx hb d_B_placeOf_25 (by decide) (fun c52 => ?_) (fun c52 => ?_)
        · replace c52 := mt (lg_cmp_eq _ _).mpr c52
          refine lv_iconst (v := nI 0) hx hb d_B_placeOf_37 (by decide) ?_
          refine lv_istore (lv' := [(4, .int (nI 0)), (0, .ref (ad 0)), (1, .int (nI j)), (2, .int (nI (pl po j i))), (3, .int (nI i))]) hx hb d_B_placeOf_38 hl (by decide) rfl (fun ls hl => ?_)
          refine lv_aload_n hx hb d_B_placeOf_40 rfl (lv_at hl 1 rfl) ?_
          refine va_get (D := (dC, dI)) (ci := 0) (v := .ref (ad 3)) (C := "ClearingBooks") (T := T_B) (N := 12) hx hb hts wi_B hown hK hP 0 rfl rfl 3 (by decide) (hts _ kw_20) (fun _ h9 => h9) rfl d_B_placeOf_41 ?_
          refine lv_iload_n hx hb d_B_placeOf_44 rfl (lv_at hl 4 rfl) ?_
          refine xa_laload (f := po) hx hb hK hP 3 1 rfl rfl (j := i) (by omega) (by decide) d_B_placeOf_45 ?_
          refine lv_aload_n hx hb d_B_placeOf_46 rfl (lv_at hl 1 rfl) ?_
          refine va_get (D := (dC, dI)) (ci := 0) (v := .ref (ad 3)) (C := "ClearingBooks") (T := T_B) (N := 12) hx hb hts wi_B hown hK hP 0 rfl rfl 3 (by decide) (hts _ kw_20) (fun _ h9 => h9) rfl d_B_placeOf_47 ?_
          refine lv_iload_n hx hb d_B_placeOf_50 rfl (lv_at hl 2 rfl) ?_
          refine xa_laload (f := po) hx hb hK hP 3 1 rfl rfl (j := j) (by omega) (by decide) d_B_placeOf_51 ?_
          refine W.lcmp hx hb d_B_placeOf_52 ?_
          refine lv_if_gt (tgt := 61) hx hb d_B_placeOf_53 (by decide) (fun c53 => ?_) (fun c53 => ?_)
          · replace c53 := (lg_cmp_gt _ _).mp c53
            refine lv_iinc (v := nI (pl po j i + 1)) (lv' := [(2, .int (nI (pl po j i + 1))), (4, .int (nI 0)), (0, .ref (ad 0)), (1, .int (nI j)), (3, .int (nI i))]) hx hb d_B_placeOf_61 hl (k := 3) rfl (nI_1 (pl po j i)) (by decide) rfl (fun ls hl => ?_)
            refine lv_iinc (v := nI (i + 1)) (lv' := [(3, .int (nI (i + 1))), (2, .int (nI (pl po j i + 1))), (4, .int (nI 0)), (0, .ref (ad 0)), (1, .int (nI j))]) hx hb d_B_placeOf_64 hl (k := 4) rfl (nI_1 i) (by decide) rfl (fun ls hl => ?_)
            refine lv_goto (tgt := 4) hx hb d_B_placeOf_67 (by decide) ?_
            have hq : (po j < po i ∨ (po i = po j ∧ i < j)) := by first | exact Or.inl (by assumption) | exact Or.inr ⟨by assumption, by omega⟩ | (rintro (h8 | ⟨h8, h7⟩) <;> first | contradiction | omega)
            exact ih (i + 1) ls (by omega) (by rw [pl_y hq]; exact lv_sub hl [3, 4, 1, 0] rfl)
          · replace c53 := mt (lg_cmp_gt _ _).mpr c53
            refine lv_iload hx hb d_B_placeOf_56 (lv_at hl 0 rfl) ?_
            refine lv_if_eq (tgt := 64) hx hb d_B_placeOf_58 (by decide) (fun c54 => ?_) (fun c54 => ?_)
            · refine lv_iinc (v := nI (i + 1)) (lv' := [(3, .int (nI (i + 1))), (4, .int (nI 0)), (0, .ref (ad 0)), (1, .int (nI j)), (2, .int (nI (pl po j i)))]) hx hb d_B_placeOf_64 hl (k := 4) rfl (nI_1 i) (by decide) rfl (fun ls hl => ?_)
              refine lv_goto (tgt := 4) hx hb d_B_placeOf_67 (by decide) ?_
              have hq : ¬ (po j < po i ∨ (po i = po j ∧ i < j)) := by first | exact Or.inl (by assumption) | exact Or.inr ⟨by assumption, by omega⟩ | (rintro (h8 | ⟨h8, h7⟩) <;> first | contradiction | omega)
              exact ih (i + 1) ls (by omega) (by rw [pl_n hq]; exact lv_sub hl [2, 3, 4, 0] rfl)
            · exact absurd rfl c54
        · replace c52 := (lg_cmp_eq _ _).mp c52
          refine lv_iload_n hx hb d_B_placeOf_28 rfl (lv_at hl 3 rfl) ?_
          refine lv_iload_n hx hb d_B_placeOf_29 rfl (lv_at hl 1 rfl) ?_
          refine lv_icmp_ge (tgt := 37) hx hb d_B_placeOf_30 (by decide) (fun c55 => ?_) (fun c55 => ?_)
          · replace c55 := (nI_leI (by omega) (by omega)).mp c55
            refine lv_iconst (v := nI 0) hx hb d_B_placeOf_37 (by decide) ?_
            refine lv_istore (lv' := [(4, .int (nI 0)), (0, .ref (ad 0)), (1, .int (nI j)), (2, .int (nI (pl po j i))), (3, .int (nI i))]) hx hb d_B_placeOf_38 hl (by decide) rfl (fun ls hl => ?_)
            refine lv_aload_n hx hb d_B_placeOf_40 rfl (lv_at hl 1 rfl) ?_
            refine va_get (D := (dC, dI)) (ci := 0) (v := .ref (ad 3)) (C := "ClearingBooks") (T := T_B) (N := 12) hx hb hts wi_B hown hK hP 0 rfl rfl 3 (by decide) (hts _ kw_20) (fun _ h9 => h9) rfl d_B_placeOf_41 ?_
            refine lv_iload_n hx hb d_B_placeOf_44 rfl (lv_at hl 4 rfl) ?_
            refine xa_laload (f := po) hx hb hK hP 3 1 rfl rfl (j := i) (by omega) (by decide) d_B_placeOf_45 ?_
            refine lv_aload_n hx hb d_B_placeOf_46 rfl (lv_at hl 1 rfl) ?_
            refine va_get (D := (dC, dI)) (ci := 0) (v := .ref (ad 3)) (C := "ClearingBooks") (T := T_B) (N := 12) hx hb hts wi_B hown hK hP 0 rfl rfl 3 (by decide) (hts _ kw_20) (fun _ h9 => h9) rfl d_B_placeOf_47 ?_
            refine lv_iload_n hx hb d_B_placeOf_50 rfl (lv_at hl 2 rfl) ?_
            refine xa_laload (f := po) hx hb hK hP 3 1 rfl rfl (j := j) (by omega) (by decide) d_B_placeOf_51 ?_
            refine W.lcmp hx hb d_B_placeOf_52 ?_
            refine lv_if_gt (tgt := 61) hx hb d_B_placeOf_53 (by decide) (fun c56 => ?_) (fun c56 => ?_)
            · replace c56 := (lg_cmp_gt _ _).mp c56
              refine lv_iinc (v := nI (pl po j i + 1)) (lv' := [(2, .int (nI (pl po j i + 1))), (4, .int (nI 0)), (0, .ref (ad 0)), (1, .int (nI j)), (3, .int (nI i))]) hx hb d_B_placeOf_61 hl (k := 3) rfl (nI_1 (pl po j i)) (by decide) rfl (fun ls hl => ?_)
              refine lv_iinc (v := nI (i + 1)) (lv' := [(3, .int (nI (i + 1))), (2, .int (nI (pl po j i + 1))), (4, .int (nI 0)), (0, .ref (ad 0)), (1, .int (nI j))]) hx hb d_B_placeOf_64 hl (k := 4) rfl (nI_1 i) (by decide) rfl (fun ls hl => ?_)
              refine lv_goto (tgt := 4) hx hb d_B_placeOf_67 (by decide) ?_
              have hq : (po j < po i ∨ (po i = po j ∧ i < j)) := by first | exact Or.inl (by assumption) | exact Or.inr ⟨by assumption, by omega⟩ | (rintro (h8 | ⟨h8, h7⟩) <;> first | contradiction | omega)
              exact ih (i + 1) ls (by omega) (by rw [pl_y hq]; exact lv_sub hl [3, 4, 1, 0] rfl)
            · replace c56 := mt (lg_cmp_gt _ _).mpr c56
              refine lv_iload hx hb d_B_placeOf_56 (lv_at hl 0 rfl) ?_
              refine lv_if_eq (tgt := 64) hx hb d_B_placeOf_58 (by decide) (fun c57 => ?_) (fun c57 => ?_)
              · refine lv_iinc (v := nI (i + 1)) (lv' := [(3, .int (nI (i + 1))), (4, .int (nI 0)), (0, .ref (ad 0)), (1, .int (nI j)), (2, .int (nI (pl po j i)))]) hx hb d_B_placeOf_64 hl (k := 4) rfl (nI_1 i) (by decide) rfl (fun ls hl => ?_)
                refine lv_goto (tgt := 4) hx hb d_B_placeOf_67 (by decide) ?_
                have hq : ¬ (po j < po i ∨ (po i = po j ∧ i < j)) := by first | exact Or.inl (by assumption) | exact Or.inr ⟨by assumption, by omega⟩ | (rintro (h8 | ⟨h8, h7⟩) <;> first | contradiction | omega)
                exact ih (i + 1) ls (by omega) (by rw [pl_n hq]; exact lv_sub hl [2, 3, 4, 0] rfl)
              · exact absurd rfl c57
          · replace c55 := mt (nI_leI (by omega) (by omega)).mpr c55
            refine lv_iconst (v := nI 1) hx hb d_B_placeOf_33 (by decide) ?_
            refine lv_goto (tgt := 38) hx hb d_B_placeOf_34 (by decide) ?_
            refine lv_istore (lv' := [(4, .int (nI 1)), (0, .ref (ad 0)), (1, .int (nI j)), (2, .int (nI (pl po j i))), (3, .int (nI i))]) hx hb d_B_placeOf_38 hl (by decide) rfl (fun ls hl => ?_)
            refine lv_aload_n hx hb d_B_placeOf_40 rfl (lv_at hl 1 rfl) ?_
            refine va_get (D := (dC, dI)) (ci := 0) (v := .ref (ad 3)) (C := "ClearingBooks") (T := T_B) (N := 12) hx hb hts wi_B hown hK hP 0 rfl rfl 3 (by decide) (hts _ kw_20) (fun _ h9 => h9) rfl d_B_placeOf_41 ?_
            refine lv_iload_n hx hb d_B_placeOf_44 rfl (lv_at hl 4 rfl) ?_
            refine xa_laload (f := po) hx hb hK hP 3 1 rfl rfl (j := i) (by omega) (by decide) d_B_placeOf_45 ?_
            refine lv_aload_n hx hb d_B_placeOf_46 rfl (lv_at hl 1 rfl) ?_
            refine va_get (D := (dC, dI)) (ci := 0) (v := .ref (ad 3)) (C := "ClearingBooks") (T := T_B) (N := 12) hx hb hts wi_B hown hK hP 0 rfl rfl 3 (by decide) (hts _ kw_20) (fun _ h9 => h9) rfl d_B_placeOf_47 ?_
            refine lv_iload_n hx hb d_B_placeOf_50 rfl (lv_at hl 2 rfl) ?_
            refine xa_laload (f := po) hx hb hK hP 3 1 rfl rfl (j := j) (by omega) (by decide) d_B_placeOf_51 ?_
            refine W.lcmp hx hb d_B_placeOf_52 ?_
            refine lv_if_gt (tgt := 61) hx hb d_B_placeOf_53 (by decide) (fun c58 => ?_) (fun c58 => ?_)
            · replace c58 := (lg_cmp_gt _ _).mp c58
              refine lv_iinc (v := nI (pl po j i + 1)) (lv' := [(2, .int (nI (pl po j i + 1))), (4, .int (nI 1)), (0, .ref (ad 0)), (1, .int (nI j)), (3, .int (nI i))]) hx hb d_B_placeOf_61 hl (k := 3) rfl (nI_1 (pl po j i)) (by decide) rfl (fun ls hl => ?_)
              refine lv_iinc (v := nI (i + 1)) (lv' := [(3, .int (nI (i + 1))), (2, .int (nI (pl po j i + 1))), (4, .int (nI 1)), (0, .ref (ad 0)), (1, .int (nI j))]) hx hb d_B_placeOf_64 hl (k := 4) rfl (nI_1 i) (by decide) rfl (fun ls hl => ?_)
              refine lv_goto (tgt := 4) hx hb d_B_placeOf_67 (by decide) ?_
              have hq : (po j < po i ∨ (po i = po j ∧ i < j)) := by first | exact Or.inl (by assumption) | exact Or.inr ⟨by assumption, by omega⟩ | (rintro (h8 | ⟨h8, h7⟩) <;> first | contradiction | omega)
              exact ih (i + 1) ls (by omega) (by rw [pl_y hq]; exact lv_sub hl [3, 4, 1, 0] rfl)
            · replace c58 := mt (lg_cmp_gt _ _).mpr c58
              refine lv_iload hx hb d_B_placeOf_56 (lv_at hl 0 rfl) ?_
              refine lv_if_eq (tgt := 64) hx hb d_B_placeOf_58 (by decide) (fun c59 => ?_) (fun c59 => ?_)
              · exact absurd c59 (by decide)
              · refine lv_iinc (v := nI (pl po j i + 1)) (lv' := [(2, .int (nI (pl po j i + 1))), (4, .int (nI 1)), (0, .ref (ad 0)), (1, .int (nI j)), (3, .int (nI i))]) hx hb d_B_placeOf_61 hl (k := 3) rfl (nI_1 (pl po j i)) (by decide) rfl (fun ls hl => ?_)
                refine lv_iinc (v := nI (i + 1)) (lv' := [(3, .int (nI (i + 1))), (2, .int (nI (pl po j i + 1))), (4, .int (nI 1)), (0, .ref (ad 0)), (1, .int (nI j))]) hx hb d_B_placeOf_64 hl (k := 4) rfl (nI_1 i) (by decide) rfl (fun ls hl => ?_)
                refine lv_goto (tgt := 4) hx hb d_B_placeOf_67 (by decide) ?_
                have hq : (po j < po i ∨ (po i = po j ∧ i < j)) := by first | exact Or.inl (by assumption) | exact Or.inr ⟨by assumption, by omega⟩ | (rintro (h8 | ⟨h8, h7⟩) <;> first | contradiction | omega)
                exact ih (i + 1) ls (by omega) (by rw [pl_y hq]; exact lv_sub hl [3, 4, 1, 0] rfl)
  exact loop n 0 ls (by omega) (lv_sub hl [2, 3, 1, 0] rfl)
set_option maxHeartbeats 4000000 in
set_option maxRecDepth 100000 in
theorem c_parties (l : Launch) (dC : Nat → ClassId) (dI : Nat → Nat → Nat) (ad : Nat → Nat) (cI cJ : ClassId) (n tc : Nat) (ki ra : Nat → Int32) (po se : Nat → Int64) (bc : Nat → Int32) (bs op : Nat → Int64) (pr pe : Nat → Int32) (pm : Nat → Int64)  : Met l y_B_parties (.code y_B_parties b_B_parties 1 (some .int) :: wAll) ({ frames := 0, cells := 0, slots := 0, locals := 0 } : Room) (ro_P [.ref (ad 0)] (dC, dI) vwCl [(cI, .int), (cJ, .long)] (cb_w ad cI cJ n tc ki ra po se bc bs op pr pe pm) (fun _ => True)) (ro_Q (some (.int (nI n)))) 0 0 (fun _ => False) := by
  refine Met.ofW (cc := b_B_parties) (maxL := 1) (ret := (some .int)) (by decide) rfl ?_
  intro p e s m args below meth c s₁ B hml hv
  obtain ⟨rfl, hP, hK, hB⟩ := hv
  have hx := B.exec
  have hb := B.bytes
  have hr := B.returns
  have hts0 := atoms_spec (ws := (.code y_B_parties b_B_parties 1 (some .int) :: wAll)) B.pre
  have hts := hts_all hts0
  have hown : s.vm.findClass "ClearingBooks" = some m.cls := findClass_of_methodNamed B.named
  have hlocks := B.notSynchronized
  have hl := lv_entry ([.ref (ad 0)]) (n := 1) (Nat.le_of_ble_eq_true rfl)
  rw [lg_entry_eq]
  generalize (lg_sl ([.ref (ad 0)]) ++ List.replicate (1 - (lg_sl ([.ref (ad 0)])).length) Slot.unset).toArray = ls at hl ⊢
  have hl : lv_has ls 1 [(0, .ref (ad 0))] := hl
  refine lv_aload_n hx hb d_B_parties_0 rfl (lv_at hl 0 rfl) ?_
  refine va_get (D := (dC, dI)) (ci := 0) (v := .int (nI n)) (C := "ClearingBooks") (T := T_B) (N := 12) hx hb hts wi_B hown hK hP 0 rfl rfl 0 (by decide) (hts _ kw_17) (fun _ h9 => h9) rfl d_B_parties_1 ?_
  exact W.iret (v := nI n) hx hb hr (fun t ht hW => ⟨rfl, ht⟩) (fun q hq => by cases hq) d_B_parties_4
end
section
set_option maxHeartbeats 4000000 in
set_option maxRecDepth 100000 in
theorem c_audit (l : Launch) (dC : Nat → ClassId) (dI : Nat → Nat → Nat) (ad : Nat → Nat) (cI cJ : ClassId) (n tc : Nat) (ki ra : Nat → Int32) (po se : Nat → Int64) (bc : Nat → Int32) (bs op : Nat → Int64) (pr pe : Nat → Int32) (pm : Nat → Int64) (hn : n ≤ 15) : Met l y_B_audit (.code y_B_audit b_B_audit 3 (some .int) :: wAll) ({ frames := 1, cells := 0, slots := 0, locals := 24 } : Room) (ro_P [.ref (ad 0)] (dC, dI) vwCl [(cI, .int), (cJ, .long)] (cb_w ad cI cJ n tc ki ra po se bc bs op pr pe pm) (fun _ => True)) (ro_Q (some (.int (nI (zz (sm po n) 2 + zz (sm se n) 1))))) 0 0 (fun _ => False) := by
  refine Met.ofW (cc := b_B_audit) (maxL := 3) (ret := (some .int)) (by decide) rfl ?_
  intro p e s m args below meth c s₁ B hml hv
  obtain ⟨rfl, hP, hK, hB⟩ := hv
  have hx := B.exec
  have hb := B.bytes
  have hr := B.returns
  have hts0 := atoms_spec (ws := (.code y_B_audit b_B_audit 3 (some .int) :: wAll)) B.pre
  have hts := hts_all hts0
  have hown : s.vm.findClass "ClearingBooks" = some m.cls := findClass_of_methodNamed B.named
  have hlocks := B.notSynchronized
  have hl := lv_entry ([.ref (ad 0)]) (n := 3) (Nat.le_of_ble_eq_true rfl)
  rw [lg_entry_eq]
  generalize (lg_sl ([.ref (ad 0)]) ++ List.replicate (3 - (lg_sl ([.ref (ad 0)])).length) Slot.unset).toArray = ls at hl ⊢
  have hl : lv_has ls 3 [(0, .ref (ad 0))] := hl
  refine lv_aload_n hx hb d_B_audit_0 rfl (lv_at hl 0 rfl) ?_
  refine lv_aload_n hx hb d_B_audit_1 rfl (lv_at hl 0 rfl) ?_
  refine va_get (D := (dC, dI)) (ci := 0) (v := .ref (ad 3)) (C := "ClearingBooks") (T := T_B) (N := 12) hx hb hts wi_B hown hK hP 0 rfl rfl 3 (by decide) (hts _ kw_20) (fun _ h9 => h9) rfl d_B_audit_2 ?_
  refine ro_call (va_runV (As := [.ref (ad 3)]) (rest := []) ⟨hx, hb, hml, hown, hts⟩ (c_sumOf_po l dC dI ad cI cJ n tc ki ra po se bc bs op pr pe pm hn) (cwV 1 hts (wAll_v kw_87 kw_89 ks_4 kw_1 kw_90) rfl rfl rfl (by decide +kernel) ⟨Nat.le_of_ble_eq_true rfl, Nat.le_of_ble_eq_true rfl⟩) (ro_preV bl_tt hK hP (ci := 0) (q0 := 0) rfl rfl (fun _ _ _ => trivial)) rfl rfl hl.1 rfl (lv_room (Nat.le_of_ble_eq_true rfl)) d_B_audit_5 ⟨Nat.le_of_ble_eq_true rfl, Nat.le_of_ble_eq_true rfl⟩) ?_
  refine W.eq (g2 := F0 m 8 ls [.long (sm po n)]) rfl ?_
  refine lv_lconst (v := 0) hx hb d_B_audit_8 (by decide) ?_
  refine W.lcmp hx hb d_B_audit_9 ?_
  refine lv_if_eq (tgt := 17) hx hb d_B_audit_10 (by decide) (fun c1 => ?_) (fun c1 => ?_)
  · replace c1 := (lg_cmp_eq _ _).mp c1
    refine lv_iconst (v := nI 0) hx hb d_B_audit_17 (by decide) ?_
    refine lv_istore_n (lv' := [(1, .int (nI 0)), (0, .ref (ad 0))]) hx hb d_B_audit_18 rfl hl (by decide) rfl (fun ls hl => ?_)
    refine lv_aload_n hx hb d_B_audit_19 rfl (lv_at hl 1 rfl) ?_
    refine lv_aload_n hx hb d_B_audit_20 rfl (lv_at hl 1 rfl) ?_
    refine va_get (D := (dC, dI)) (ci := 0) (v := .ref (ad 4)) (C := "ClearingBooks") (T := T_B) (N := 12) hx hb hts wi_B hown hK hP 0 rfl rfl 4 (by decide) (hts _ kw_21) (fun _ h9 => h9) rfl d_B_audit_21 ?_
    refine ro_call (va_runV (As := [.ref (ad 4)]) (rest := []) ⟨hx, hb, hml, hown, hts⟩ (c_sumOf_se l dC dI ad cI cJ n tc ki ra po se bc bs op pr pe pm hn) (cwV 1 hts (wAll_v kw_87 kw_89 ks_4 kw_1 kw_90) rfl rfl rfl (by decide +kernel) ⟨Nat.le_of_ble_eq_true rfl, Nat.le_of_ble_eq_true rfl⟩) (ro_preV bl_tt hK hP (ci := 0) (q0 := 0) rfl rfl (fun _ _ _ => trivial)) rfl rfl hl.1 rfl (lv_room (Nat.le_of_ble_eq_true rfl)) d_B_audit_24 ⟨Nat.le_of_ble_eq_true rfl, Nat.le_of_ble_eq_true rfl⟩) ?_
    refine W.eq (g2 := F0 m 27 ls [.long (sm se n)]) rfl ?_
    refine lv_lconst (v := 0) hx hb d_B_audit_27 (by decide) ?_
    refine W.lcmp hx hb d_B_audit_28 ?_
    refine lv_if_eq (tgt := 36) hx hb d_B_audit_29 (by decide) (fun c2 => ?_) (fun c2 => ?_)
    · replace c2 := (lg_cmp_eq _ _).mp c2
      refine lv_iconst (v := nI 0) hx hb d_B_audit_36 (by decide) ?_
      refine lv_istore_n (lv' := [(2, .int (nI 0)), (1, .int (nI 0)), (0, .ref (ad 0))]) hx hb d_B_audit_37 rfl hl (by decide) rfl (fun ls hl => ?_)
      refine lv_iload_n hx hb d_B_audit_38 rfl (lv_at hl 1 rfl) ?_
      refine lv_iload_n hx hb d_B_audit_39 rfl (lv_at hl 0 rfl) ?_
      refine t_iadd hx hb d_B_audit_40 (v := nI (0 + 0)) (nI_add 0 0) ?_
      exact W.iret (v := nI (0 + 0)) hx hb hr (fun t ht hW => ⟨by simp [zz, *], ht⟩) (fun q hq => by cases hq) d_B_audit_41
    · replace c2 := mt (lg_cmp_eq _ _).mpr c2
      refine lv_iconst (v := nI 1) hx hb d_B_audit_32 (by decide) ?_
      refine lv_goto (tgt := 37) hx hb d_B_audit_33 (by decide) ?_
      refine lv_istore_n (lv' := [(2, .int (nI 1)), (1, .int (nI 0)), (0, .ref (ad 0))]) hx hb d_B_audit_37 rfl hl (by decide) rfl (fun ls hl => ?_)
      refine lv_iload_n hx hb d_B_audit_38 rfl (lv_at hl 1 rfl) ?_
      refine lv_iload_n hx hb d_B_audit_39 rfl (lv_at hl 0 rfl) ?_
      refine t_iadd hx hb d_B_audit_40 (v := nI (0 + 1)) (nI_add 0 1) ?_
      exact W.iret (v := nI (0 + 1)) hx hb hr (fun t ht hW => ⟨by simp [zz, *], ht⟩) (fun q hq => by cases hq) d_B_audit_41
  · replace c1 := mt (lg_cmp_eq _ _).mpr c1
    refine lv_iconst (v := nI 2) hx hb d_B_audit_13 (by decide) ?_
    refine lv_goto (tgt := 18) hx hb d_B_audit_14 (by decide) ?_
    refine lv_istore_n (lv' := [(1, .int (nI 2)), (0, .ref (ad 0))]) hx hb d_B_audit_18 rfl hl (by decide) rfl (fun ls hl => ?_)
    refine lv_aload_n hx hb d_B_audit_19 rfl (lv_at hl 1 rfl) ?_
    refine lv_aload_n hx hb d_B_audit_20 rfl (lv_at hl 1 rfl) ?_
    refine va_get (D := (dC, dI)) (ci := 0) (v := .ref (ad 4)) (C := "ClearingBooks") (T := T_B) (N := 12) hx hb hts wi_B hown hK hP 0 rfl rfl 4 (by decide) (hts _ kw_21) (fun _ h9 => h9) rfl d_B_audit_21 ?_
    refine ro_call (va_runV (As := [.ref (ad 4)]) (rest := []) ⟨hx, hb, hml, hown, hts⟩ (c_sumOf_se l dC dI ad cI cJ n tc ki ra po se bc bs op pr pe pm hn) (cwV 1 hts (wAll_v kw_87 kw_89 ks_4 kw_1 kw_90) rfl rfl rfl (by decide +kernel) ⟨Nat.le_of_ble_eq_true rfl, Nat.le_of_ble_eq_true rfl⟩) (ro_preV bl_tt hK hP (ci := 0) (q0 := 0) rfl rfl (fun _ _ _ => trivial)) rfl rfl hl.1 rfl (lv_room (Nat.le_of_ble_eq_true rfl)) d_B_audit_24 ⟨Nat.le_of_ble_eq_true rfl, Nat.le_of_ble_eq_true rfl⟩) ?_
    refine W.eq (g2 := F0 m 27 ls [.long (sm se n)]) rfl ?_
    refine lv_lconst (v := 0) hx hb d_B_audit_27 (by decide) ?_
    refine W.lcmp hx hb d_B_audit_28 ?_
    refine lv_if_eq (tgt := 36) hx hb d_B_audit_29 (by decide) (fun c3 => ?_) (fun c3 => ?_)
    · replace c3 := (lg_cmp_eq _ _).mp c3
      refine lv_iconst (v := nI 0) hx hb d_B_audit_36 (by decide) ?_
      refine lv_istore_n (lv' := [(2, .int (nI 0)), (1, .int (nI 2)), (0, .ref (ad 0))]) hx hb d_B_audit_37 rfl hl (by decide) rfl (fun ls hl => ?_)
      refine lv_iload_n hx hb d_B_audit_38 rfl (lv_at hl 1 rfl) ?_
      refine lv_iload_n hx hb d_B_audit_39 rfl (lv_at hl 0 rfl) ?_
      refine t_iadd hx hb d_B_audit_40 (v := nI (2 + 0)) (nI_add 2 0) ?_
      exact W.iret (v := nI (2 + 0)) hx hb hr (fun t ht hW => ⟨by simp [zz, *], ht⟩) (fun q hq => by cases hq) d_B_audit_41
    · replace c3 := mt (lg_cmp_eq _ _).mpr c3
      refine lv_iconst (v := nI 1) hx hb d_B_audit_32 (by decide) ?_
      refine lv_goto (tgt := 37) hx hb d_B_audit_33 (by decide) ?_
      refine lv_istore_n (lv' := [(2, .int (nI 1)), (1, .int (nI 2)), (0, .ref (ad 0))]) hx hb d_B_audit_37 rfl hl (by decide) rfl (fun ls hl => ?_)
      refine lv_iload_n hx hb d_B_audit_38 rfl (lv_at hl 1 rfl) ?_
      refine lv_iload_n hx hb d_B_audit_39 rfl (lv_at hl 0 rfl) ?_
      refine t_iadd hx hb d_B_audit_40 (v := nI (2 + 1)) (nI_add 2 1) ?_
      exact W.iret (v := nI (2 + 1)) hx hb hr (fun t ht hW => ⟨by simp [zz, *], ht⟩) (fun q hq => by cases hq) d_B_audit_41
set_option maxHeartbeats 4000000 in
set_option maxRecDepth 100000 in
theorem c_batch_y0 (l : Launch) (dC : Nat → ClassId) (dI : Nat → Nat → Nat) (ad : Nat → Nat) (cI cJ : ClassId) (n tc : Nat) (ki ra : Nat → Int32) (po se : Nat → Int64) (bc : Nat → Int32) (bs op : Nat → Int64) (pr pe : Nat → Int32) (pm : Nat → Int64) (i : Nat) (hji : i < n) (hn : n ≤ 15) (hki : ki i = nI 1) : Met l y_B_batch (.code y_B_batch b_B_batch 3 (some .long) :: wAll) ({ frames := 2, cells := 0, slots := 0, locals := 43 } : Room) (ro_P [.ref (ad 0), .int (nI i), .int (nI 0)] (dC, dI) vwCl [(cI, .int), (cJ, .long)] (cb_w ad cI cJ n tc ki ra po se bc bs op pr pe pm) (fun _ => True)) (ro_Q (some (.long ((bc i).toInt64)))) 0 0 (fun _ => False) := by
  refine Met.ofW (cc := b_B_batch) (maxL := 3) (ret := (some .long)) (by decide) rfl ?_
  intro p e s m args below meth c s₁ B hml hv
  obtain ⟨rfl, hP, hK, hB⟩ := hv
  have hx := B.exec
  have hb := B.bytes
  have hr := B.returns
  have hts0 := atoms_spec (ws := (.code y_B_batch b_B_batch 3 (some .long) :: wAll)) B.pre
  have hts := hts_all hts0
  have hown : s.vm.findClass "ClearingBooks" = some m.cls := findClass_of_methodNamed B.named
  have hlocks := B.notSynchronized
  have hl := lv_entry ([.ref (ad 0), .int (nI i), .int (nI 0)]) (n := 3) (Nat.le_of_ble_eq_true rfl)
  rw [lg_entry_eq]
  generalize (lg_sl ([.ref (ad 0), .int (nI i), .int (nI 0)]) ++ List.replicate (3 - (lg_sl ([.ref (ad 0), .int (nI i), .int (nI 0)])).length) Slot.unset).toArray = ls at hl ⊢
  have hl : lv_has ls 3 [(0, .ref (ad 0)), (1, .int (nI i)), (2, .int (nI 0))] := hl
  refine lv_aload_n hx hb d_B_batch_0 rfl (lv_at hl 0 rfl) ?_
  refine lv_iload_n hx hb d_B_batch_1 rfl (lv_at hl 1 rfl) ?_
  refine lv_iconst (v := nI 1) hx hb d_B_batch_2 (by decide) ?_
  refine ro_call (va_runV (As := [.int (nI i), .int (nI 1)]) (rest := []) ⟨hx, hb, hml, hown, hts⟩ (c_requireKind_y l dC dI ad cI cJ n tc ki ra po se bc bs op pr pe pm i (nI 1) hji hn hki) (cwV 2 hts (wAll_v kw_201 kw_203 ks_7 kw_1 kw_204) rfl rfl rfl (by decide +kernel) ⟨Nat.le_of_ble_eq_true rfl, Nat.le_of_ble_eq_true rfl⟩) (ro_preV bl_tt hK hP (ci := 0) (q0 := 0) rfl rfl (fun _ _ _ => trivial)) rfl rfl hl.1 rfl (lv_room (Nat.le_of_ble_eq_true rfl)) d_B_batch_3 ⟨Nat.le_of_ble_eq_true rfl, Nat.le_of_ble_eq_true rfl⟩) ?_
  refine W.eq (g2 := F0 m 6 ls []) rfl ?_
  refine lv_iload_n hx hb d_B_batch_6 rfl (lv_at hl 2 rfl) ?_
  refine lv_lookup (tgt := 32) (off := 25) hx hb d_B_batch_7 (by decide) (rfl) (by decide) ?_
  refine lv_aload_n hx hb d_B_batch_32 rfl (lv_at hl 0 rfl) ?_
  refine va_get (D := (dC, dI)) (ci := 0) (v := .ref (ad 5)) (C := "ClearingBooks") (T := T_B) (N := 12) hx hb hts wi_B hown hK hP 0 rfl rfl 5 (by decide) (hts _ kw_22) (fun _ h9 => h9) rfl d_B_batch_33 ?_
  refine lv_iload_n hx hb d_B_batch_36 rfl (lv_at hl 1 rfl) ?_
  refine xa_iaload (f := bc) hx hb hK hP 5 0 rfl rfl (j := i) (by omega) (by decide) d_B_batch_37 ?_
  refine lv_i2l (v := (bc i).toInt64) hx hb d_B_batch_38 rfl ?_
  exact W.lret (v := (bc i).toInt64) hx hb hr (fun t ht hW => ⟨rfl, ht⟩) (fun q hq => by cases hq) d_B_batch_39
set_option maxHeartbeats 4000000 in
set_option maxRecDepth 100000 in
theorem c_batch_y1 (l : Launch) (dC : Nat → ClassId) (dI : Nat → Nat → Nat) (ad : Nat → Nat) (cI cJ : ClassId) (n tc : Nat) (ki ra : Nat → Int32) (po se : Nat → Int64) (bc : Nat → Int32) (bs op : Nat → Int64) (pr pe : Nat → Int32) (pm : Nat → Int64) (i : Nat) (hji : i < n) (hn : n ≤ 15) (hki : ki i = nI 1) : Met l y_B_batch (.code y_B_batch b_B_batch 3 (some .long) :: wAll) ({ frames := 2, cells := 0, slots := 0, locals := 43 } : Room) (ro_P [.ref (ad 0), .int (nI i), .int (nI 1)] (dC, dI) vwCl [(cI, .int), (cJ, .long)] (cb_w ad cI cJ n tc ki ra po se bc bs op pr pe pm) (fun _ => True)) (ro_Q (some (.long (bs i)))) 0 0 (fun _ => False) := by
  refine Met.ofW (cc := b_B_batch) (maxL := 3) (ret := (some .long)) (by decide) rfl ?_
  intro p e s m args below meth c s₁ B hml hv
  obtain ⟨rfl, hP, hK, hB⟩ := hv
  have hx := B.exec
  have hb := B.bytes
  have hr := B.returns
  have hts0 := atoms_spec (ws := (.code y_B_batch b_B_batch 3 (some .long) :: wAll)) B.pre
  have hts := hts_all hts0
  have hown : s.vm.findClass "ClearingBooks" = some m.cls := findClass_of_methodNamed B.named
  have hlocks := B.notSynchronized
  have hl := lv_entry ([.ref (ad 0), .int (nI i), .int (nI 1)]) (n := 3) (Nat.le_of_ble_eq_true rfl)
  rw [lg_entry_eq]
  generalize (lg_sl ([.ref (ad 0), .int (nI i), .int (nI 1)]) ++ List.replicate (3 - (lg_sl ([.ref (ad 0), .int (nI i), .int (nI 1)])).length) Slot.unset).toArray = ls at hl ⊢
  have hl : lv_has ls 3 [(0, .ref (ad 0)), (1, .int (nI i)), (2, .int (nI 1))] := hl
  refine lv_aload_n hx hb d_B_batch_0 rfl (lv_at hl 0 rfl) ?_
  refine lv_iload_n hx hb d_B_batch_1 rfl (lv_at hl 1 rfl) ?_
  refine lv_iconst (v := nI 1) hx hb d_B_batch_2 (by decide) ?_
  refine ro_call (va_runV (As := [.int (nI i), .int (nI 1)]) (rest := []) ⟨hx, hb, hml, hown, hts⟩ (c_requireKind_y l dC dI ad cI cJ n tc ki ra po se bc bs op pr pe pm i (nI 1) hji hn hki) (cwV 2 hts (wAll_v kw_201 kw_203 ks_7 kw_1 kw_204) rfl rfl rfl (by decide +kernel) ⟨Nat.le_of_ble_eq_true rfl, Nat.le_of_ble_eq_true rfl⟩) (ro_preV bl_tt hK hP (ci := 0) (q0 := 0) rfl rfl (fun _ _ _ => trivial)) rfl rfl hl.1 rfl (lv_room (Nat.le_of_ble_eq_true rfl)) d_B_batch_3 ⟨Nat.le_of_ble_eq_true rfl, Nat.le_of_ble_eq_true rfl⟩) ?_
  refine W.eq (g2 := F0 m 6 ls []) rfl ?_
  refine lv_iload_n hx hb d_B_batch_6 rfl (lv_at hl 2 rfl) ?_
  refine lv_lookup (tgt := 40) (off := 33) hx hb d_B_batch_7 (by decide) (rfl) (by decide) ?_
  refine lv_aload_n hx hb d_B_batch_40 rfl (lv_at hl 0 rfl) ?_
  refine va_get (D := (dC, dI)) (ci := 0) (v := .ref (ad 6)) (C := "ClearingBooks") (T := T_B) (N := 12) hx hb hts wi_B hown hK hP 0 rfl rfl 6 (by decide) (hts _ kw_23) (fun _ h9 => h9) rfl d_B_batch_41 ?_
  refine lv_iload_n hx hb d_B_batch_44 rfl (lv_at hl 1 rfl) ?_
  refine xa_laload (f := bs) hx hb hK hP 6 1 rfl rfl (j := i) (by omega) (by decide) d_B_batch_45 ?_
  exact W.lret (v := bs i) hx hb hr (fun t ht hW => ⟨rfl, ht⟩) (fun q hq => by cases hq) d_B_batch_46
set_option maxHeartbeats 4000000 in
set_option maxRecDepth 100000 in
theorem c_batch_tk (l : Launch) (dC : Nat → ClassId) (dI : Nat → Nat → Nat) (ad : Nat → Nat) (cI cJ : ClassId) (n tc : Nat) (ki ra : Nat → Int32) (po se : Nat → Int64) (bc : Nat → Int32) (bs op : Nat → Int64) (pr pe : Nat → Int32) (pm : Nat → Int64) (x k : Int32) (hn : n ≤ 15) (hno : ¬ is_k n ki x (nI 1)) (hl0 : l.stackTraces = false) : xt_Met l y_B_batch (.code y_B_batch b_B_batch 3 (some .long) :: wAll) ({ frames := 7, cells := 1, slots := 6, locals := 112 } : Room) (ro_P [.ref (ad 0), .int x, .int k] (dC, dI) vwCl [(cI, .int), (cJ, .long)] (cb_w ad cI cJ n tc ki ra po se bc bs op pr pe pm) (xc_ok "ClearingBooks" cb_ks)) "java/lang/IllegalArgumentException" 1 6 := by
  refine xt_ofW (cc := b_B_batch) (maxL := 3) (ret := (some .long)) (by decide) rfl ?_
  intro p e s m args below meth c s₁ B hml hv
  obtain ⟨rfl, hP, hK, hB⟩ := hv
  have hx := B.exec
  have hb := B.bytes
  have hr := B.returns
  have hts0 := atoms_spec (ws := (.code y_B_batch b_B_batch 3 (some .long) :: wAll)) B.pre
  have hts := hts_all hts0
  have hown : s.vm.findClass "ClearingBooks" = some m.cls := findClass_of_methodNamed B.named
  have hlocks := B.notSynchronized
  have hnh := B.noHandlers (hts0 _ List.mem_cons_self)
  have hout : ∀ pc9 : Nat, ∀ x ∈ c.exceptionTable.toList, covers x pc9 = false := fun pc9 x hx9 => by rw [xt_nil hnh] at hx9; cases hx9
  have hl := lv_entry ([.ref (ad 0), .int x, .int k]) (n := 3) (Nat.le_of_ble_eq_true rfl)
  rw [lg_entry_eq]
  generalize (lg_sl ([.ref (ad 0), .int x, .int k]) ++ List.replicate (3 - (lg_sl ([.ref (ad 0), .int x, .int k])).length) Slot.unset).toArray = ls at hl ⊢
  have hl : lv_has ls 3 [(0, .ref (ad 0)), (1, .int x), (2, .int k)] := hl
  refine lv_aload_n hx hb d_B_batch_0 rfl (lv_at hl 0 rfl) ?_
  refine lv_iload_n hx hb d_B_batch_1 rfl (lv_at hl 1 rfl) ?_
  refine lv_iconst (v := nI 1) hx hb d_B_batch_2 (by decide) ?_
  exact xt_pass (xt_runV (As := [.int x, .int (nI 1)]) (rest := []) ⟨hx, hb, hml, hown, hts⟩ (c_requireKind_t l dC dI ad cI cJ n tc ki ra po se bc bs op pr pe pm x (nI 1) hn hno hl0) (cwV 2 hts (wAll_v kw_201 kw_203 ks_7 kw_1 kw_204) rfl rfl rfl (by decide +kernel) ⟨Nat.le_of_ble_eq_true rfl, Nat.le_of_ble_eq_true rfl⟩) (ro_preV bl_xc hK hP (ci := 0) (q0 := 0) rfl rfl (fun U hU hW => xc_moved hB hW (fun q _ => by rw [hU]))) rfl rfl hl.1 rfl (lv_room (Nat.le_of_ble_eq_true rfl)) d_B_batch_3 ⟨Nat.le_of_ble_eq_true rfl, Nat.le_of_ble_eq_true rfl⟩) (hout _) hlocks (Nat.le_of_ble_eq_true rfl) (Nat.le_of_ble_eq_true rfl)
set_option maxHeartbeats 4000000 in
set_option maxRecDepth 100000 in
theorem c_batch_tw (l : Launch) (dC : Nat → ClassId) (dI : Nat → Nat → Nat) (ad : Nat → Nat) (cI cJ : ClassId) (n tc : Nat) (ki ra : Nat → Int32) (po se : Nat → Int64) (bc : Nat → Int32) (bs op : Nat → Int64) (pr pe : Nat → Int32) (pm : Nat → Int64) (i : Nat) (k : Int32) (hji : i < n) (hn : n ≤ 15) (hki : ki i = nI 1) (hw0 : ¬ k = nI 0) (hw1 : ¬ k = nI 1) (hl0 : l.stackTraces = false) : xt_Met l y_B_batch (.code y_B_batch b_B_batch 3 (some .long) :: wAll) ({ frames := 7, cells := 1, slots := 6, locals := 112 } : Room) (ro_P [.ref (ad 0), .int (nI i), .int k] (dC, dI) vwCl [(cI, .int), (cJ, .long)] (cb_w ad cI cJ n tc ki ra po se bc bs op pr pe pm) (xc_ok "ClearingBooks" cb_ks)) "java/lang/IllegalArgumentException" 1 6 := by
  refine xt_ofW (cc := b_B_batch) (maxL := 3) (ret := (some .long)) (by decide) rfl ?_
  intro p e s m args below meth c s₁ B hml hv
  obtain ⟨rfl, hP, hK, hB⟩ := hv
  have hx := B.exec
  have hb := B.bytes
  have hr := B.returns
  have hts0 := atoms_spec (ws := (.code y_B_batch b_B_batch 3 (some .long) :: wAll)) B.pre
  have hts := hts_all hts0
  have hown : s.vm.findClass "ClearingBooks" = some m.cls := findClass_of_methodNamed B.named
  have hlocks := B.notSynchronized
  have hnh := B.noHandlers (hts0 _ List.mem_cons_self)
  have hout : ∀ pc9 : Nat, ∀ x ∈ c.exceptionTable.toList, covers x pc9 = false := fun pc9 x hx9 => by rw [xt_nil hnh] at hx9; cases hx9
  have hl := lv_entry ([.ref (ad 0), .int (nI i), .int k]) (n := 3) (Nat.le_of_ble_eq_true rfl)
  rw [lg_entry_eq]
  generalize (lg_sl ([.ref (ad 0), .int (nI i), .int k]) ++ List.replicate (3 - (lg_sl ([.ref (ad 0), .int (nI i), .int k])).length) Slot.unset).toArray = ls at hl ⊢
  have hl : lv_has ls 3 [(0, .ref (ad 0)), (1, .int (nI i)), (2, .int k)] := hl
  refine lv_aload_n hx hb d_B_batch_0 rfl (lv_at hl 0 rfl) ?_
  refine lv_iload_n hx hb d_B_batch_1 rfl (lv_at hl 1 rfl) ?_
  refine lv_iconst (v := nI 1) hx hb d_B_batch_2 (by decide) ?_
  refine ro_call (va_runV (As := [.int (nI i), .int (nI 1)]) (rest := []) ⟨hx, hb, hml, hown, hts⟩ (c_requireKind_y l dC dI ad cI cJ n tc ki ra po se bc bs op pr pe pm i (nI 1) hji hn hki) (cwV 2 hts (wAll_v kw_201 kw_203 ks_7 kw_1 kw_204) rfl rfl rfl (by decide +kernel) ⟨Nat.le_of_ble_eq_true rfl, Nat.le_of_ble_eq_true rfl⟩) (ro_preV bl_tt hK hP (ci := 0) (q0 := 0) rfl rfl (fun _ _ _ => trivial)) rfl rfl hl.1 rfl (lv_room (Nat.le_of_ble_eq_true rfl)) d_B_batch_3 ⟨Nat.le_of_ble_eq_true rfl, Nat.le_of_ble_eq_true rfl⟩) ?_
  refine W.eq (g2 := F0 m 6 ls []) rfl ?_
  refine lv_iload_n hx hb d_B_batch_6 rfl (lv_at hl 2 rfl) ?_
  refine lv_lookup (tgt := 47) (off := 40) hx hb d_B_batch_7 (by decide) ((lv_osw (k := nI 0) hw0 (by decide)).trans ((lv_osw (k := nI 1) hw1 (by decide)).trans (rfl))) (by decide) ?_
  obtain ⟨sa, hsa⟩ := hB.2.1 _ (List.mem_of_getElem? (l := cb_ks) (i := 4) rfl)
  exact xt_throw (names := ["java/lang/RuntimeException", "java/lang/Exception"]) hx hb hl0 hown (by decide) (by decide) (hts _ kw_104) (hts _ kw_6) hsa (xc_atoms hB hts at_iae) (by rw [hml]; exact hl.1) (Nat.le_refl _) d_B_batch_47 d_B_batch_50 d_B_batch_51 d_B_batch_53 d_B_batch_56 (hout _) (Nat.le_of_ble_eq_true rfl) (Nat.le_of_ble_eq_true rfl) (Nat.le_of_ble_eq_true rfl) (Nat.le_of_ble_eq_true rfl) hlocks (Nat.le_of_ble_eq_true rfl) (Nat.le_of_ble_eq_true rfl)
set_option maxHeartbeats 4000000 in
set_option maxRecDepth 100000 in
theorem c_transfer_y0 (l : Launch) (dC : Nat → ClassId) (dI : Nat → Nat → Nat) (ad : Nat → Nat) (cI cJ : ClassId) (n tc : Nat) (ki ra : Nat → Int32) (po se : Nat → Int64) (bc : Nat → Int32) (bs op : Nat → Int64) (pr pe : Nat → Int32) (pm : Nat → Int64) (i : Nat) (hi : i < tc) (htc : tc ≤ 14) : Met l y_B_transfer (.code y_B_transfer b_B_transfer 3 (some .long) :: wAll) ({ frames := 0, cells := 0, slots := 0, locals := 0 } : Room) (ro_P [.ref (ad 0), .int (nI i), .int (nI 0)] (dC, dI) vwCl [(cI, .int), (cJ, .long)] (cb_w ad cI cJ n tc ki ra po se bc bs op pr pe pm) (fun _ => True)) (ro_Q (some (.long ((pr i).toInt64)))) 0 0 (fun _ => False) := by
  refine Met.ofW (cc := b_B_transfer) (maxL := 3) (ret := (some .long)) (by decide) rfl ?_
  intro p e s m args below meth c s₁ B hml hv
  obtain ⟨rfl, hP, hK, hB⟩ := hv
  have hx := B.exec
  have hb := B.bytes
  have hr := B.returns
  have hts0 := atoms_spec (ws := (.code y_B_transfer b_B_transfer 3 (some .long) :: wAll)) B.pre
  have hts := hts_all hts0
  have hown : s.vm.findClass "ClearingBooks" = some m.cls := findClass_of_methodNamed B.named
  have hlocks := B.notSynchronized
  have hl := lv_entry ([.ref (ad 0), .int (nI i), .int (nI 0)]) (n := 3) (Nat.le_of_ble_eq_true rfl)
  rw [lg_entry_eq]
  generalize (lg_sl ([.ref (ad 0), .int (nI i), .int (nI 0)]) ++ List.replicate (3 - (lg_sl ([.ref (ad 0), .int (nI i), .int (nI 0)])).length) Slot.unset).toArray = ls at hl ⊢
  have hl : lv_has ls 3 [(0, .ref (ad 0)), (1, .int (nI i)), (2, .int (nI 0))] := hl
  refine lv_iload_n hx hb d_B_transfer_0 rfl (lv_at hl 1 rfl) ?_
  refine lv_if_lt (tgt := 12) hx hb d_B_transfer_1 (by decide) (fun c1 => ?_) (fun c1 => ?_)
  · exact absurd c1 (nI_pos (by omega))
  · refine lv_iload_n hx hb d_B_transfer_4 rfl (lv_at hl 1 rfl) ?_
    refine lv_aload_n hx hb d_B_transfer_5 rfl (lv_at hl 0 rfl) ?_
    refine va_get (D := (dC, dI)) (ci := 0) (v := .int (nI tc)) (C := "ClearingBooks") (T := T_B) (N := 12) hx hb hts wi_B hown hK hP 0 rfl rfl 8 (by decide) (hts _ kw_25) (fun _ h9 => h9) rfl d_B_transfer_6 ?_
    refine lv_icmp_lt (tgt := 22) hx hb d_B_transfer_9 (by decide) (fun c2 => ?_) (fun c2 => ?_)
    · replace c2 := (nI_ltI (by omega) (by omega)).mp c2
      refine lv_iload_n hx hb d_B_transfer_22 rfl (lv_at hl 2 rfl) ?_
      refine lv_tableIn (tgt := 48) (off := 25) hx hb d_B_transfer_23 (by decide) (by decide) rfl (by decide) ?_
      refine lv_aload_n hx hb d_B_transfer_48 rfl (lv_at hl 0 rfl) ?_
      refine va_get (D := (dC, dI)) (ci := 0) (v := .ref (ad 8)) (C := "ClearingBooks") (T := T_B) (N := 12) hx hb hts wi_B hown hK hP 0 rfl rfl 9 (by decide) (hts _ kw_26) (fun _ h9 => h9) rfl d_B_transfer_49 ?_
      refine lv_iload_n hx hb d_B_transfer_52 rfl (lv_at hl 1 rfl) ?_
      refine xa_iaload (f := pr) hx hb hK hP 8 0 rfl rfl (j := i) (by omega) (by decide) d_B_transfer_53 ?_
      refine lv_i2l (v := (pr i).toInt64) hx hb d_B_transfer_54 rfl ?_
      exact W.lret (v := (pr i).toInt64) hx hb hr (fun t ht hW => ⟨rfl, ht⟩) (fun q hq => by cases hq) d_B_transfer_55
    · replace c2 := mt (nI_ltI (by omega) (by omega)).mpr c2
      exact absurd hi c2
set_option maxHeartbeats 4000000 in
set_option maxRecDepth 100000 in
theorem c_transfer_y1 (l : Launch) (dC : Nat → ClassId) (dI : Nat → Nat → Nat) (ad : Nat → Nat) (cI cJ : ClassId) (n tc : Nat) (ki ra : Nat → Int32) (po se : Nat → Int64) (bc : Nat → Int32) (bs op : Nat → Int64) (pr pe : Nat → Int32) (pm : Nat → Int64) (i : Nat) (hi : i < tc) (htc : tc ≤ 14) : Met l y_B_transfer (.code y_B_transfer b_B_transfer 3 (some .long) :: wAll) ({ frames := 0, cells := 0, slots := 0, locals := 0 } : Room) (ro_P [.ref (ad 0), .int (nI i), .int (nI 1)] (dC, dI) vwCl [(cI, .int), (cJ, .long)] (cb_w ad cI cJ n tc ki ra po se bc bs op pr pe pm) (fun _ => True)) (ro_Q (some (.long ((pe i).toInt64)))) 0 0 (fun _ => False) := by
  refine Met.ofW (cc := b_B_transfer) (maxL := 3) (ret := (some .long)) (by decide) rfl ?_
  intro p e s m args below meth c s₁ B hml hv
  obtain ⟨rfl, hP, hK, hB⟩ := hv
  have hx := B.exec
  have hb := B.bytes
  have hr := B.returns
  have hts0 := atoms_spec (ws := (.code y_B_transfer b_B_transfer 3 (some .long) :: wAll)) B.pre
  have hts := hts_all hts0
  have hown : s.vm.findClass "ClearingBooks" = some m.cls := findClass_of_methodNamed B.named
  have hlocks := B.notSynchronized
  have hl := lv_entry ([.ref (ad 0), .int (nI i), .int (nI 1)]) (n := 3) (Nat.le_of_ble_eq_true rfl)
  rw [lg_entry_eq]
  generalize (lg_sl ([.ref (ad 0), .int (nI i), .int (nI 1)]) ++ List.replicate (3 - (lg_sl ([.ref (ad 0), .int (nI i), .int (nI 1)])).length) Slot.unset).toArray = ls at hl ⊢
  have hl : lv_has ls 3 [(0, .ref (ad 0)), (1, .int (nI i)), (2, .int (nI 1))] := hl
  refine lv_iload_n hx hb d_B_transfer_0 rfl (lv_at hl 1 rfl) ?_
  refine lv_if_lt (tgt := 12) hx hb d_B_transfer_1 (by decide) (fun c1 => ?_) (fun c1 => ?_)
  · exact absurd c1 (nI_pos (by omega))
  · refine lv_iload_n hx hb d_B_transfer_4 rfl (lv_at hl 1 rfl) ?_
    refine lv_aload_n hx hb d_B_transfer_5 rfl (lv_at hl 0 rfl) ?_
    refine va_get (D := (dC, dI)) (ci := 0) (v := .int (nI tc)) (C := "ClearingBooks") (T := T_B) (N := 12) hx hb hts wi_B hown hK hP 0 rfl rfl 8 (by decide) (hts _ kw_25) (fun _ h9 => h9) rfl d_B_transfer_6 ?_
    refine lv_icmp_lt (tgt := 22) hx hb d_B_transfer_9 (by decide) (fun c2 => ?_) (fun c2 => ?_)
    · replace c2 := (nI_ltI (by omega) (by omega)).mp c2
      refine lv_iload_n hx hb d_B_transfer_22 rfl (lv_at hl 2 rfl) ?_
      refine lv_tableIn (tgt := 56) (off := 33) hx hb d_B_transfer_23 (by decide) (by decide) rfl (by decide) ?_
      refine lv_aload_n hx hb d_B_transfer_56 rfl (lv_at hl 0 rfl) ?_
      refine va_get (D := (dC, dI)) (ci := 0) (v := .ref (ad 9)) (C := "ClearingBooks") (T := T_B) (N := 12) hx hb hts wi_B hown hK hP 0 rfl rfl 10 (by decide) (hts _ kw_27) (fun _ h9 => h9) rfl d_B_transfer_57 ?_
      refine lv_iload_n hx hb d_B_transfer_60 rfl (lv_at hl 1 rfl) ?_
      refine xa_iaload (f := pe) hx hb hK hP 9 0 rfl rfl (j := i) (by omega) (by decide) d_B_transfer_61 ?_
      refine lv_i2l (v := (pe i).toInt64) hx hb d_B_transfer_62 rfl ?_
      exact W.lret (v := (pe i).toInt64) hx hb hr (fun t ht hW => ⟨rfl, ht⟩) (fun q hq => by cases hq) d_B_transfer_63
    · replace c2 := mt (nI_ltI (by omega) (by omega)).mpr c2
      exact absurd hi c2
set_option maxHeartbeats 4000000 in
set_option maxRecDepth 100000 in
theorem c_transfer_y2 (l : Launch) (dC : Nat → ClassId) (dI : Nat → Nat → Nat) (ad : Nat → Nat) (cI cJ : ClassId) (n tc : Nat) (ki ra : Nat → Int32) (po se : Nat → Int64) (bc : Nat → Int32) (bs op : Nat → Int64) (pr pe : Nat → Int32) (pm : Nat → Int64) (i : Nat) (hi : i < tc) (htc : tc ≤ 14) : Met l y_B_transfer (.code y_B_transfer b_B_transfer 3 (some .long) :: wAll) ({ frames := 0, cells := 0, slots := 0, locals := 0 } : Room) (ro_P [.ref (ad 0), .int (nI i), .int (nI 2)] (dC, dI) vwCl [(cI, .int), (cJ, .long)] (cb_w ad cI cJ n tc ki ra po se bc bs op pr pe pm) (fun _ => True)) (ro_Q (some (.long (pm i)))) 0 0 (fun _ => False) := by
  refine Met.ofW (cc := b_B_transfer) (maxL := 3) (ret := (some .long)) (by decide) rfl ?_
  intro p e s m args below meth c s₁ B hml hv
  obtain ⟨rfl, hP, hK, hB⟩ := hv
  have hx := B.exec
  have hb := B.bytes
  have hr := B.returns
  have hts0 := atoms_spec (ws := (.code y_B_transfer b_B_transfer 3 (some .long) :: wAll)) B.pre
  have hts := hts_all hts0
  have hown : s.vm.findClass "ClearingBooks" = some m.cls := findClass_of_methodNamed B.named
  have hlocks := B.notSynchronized
  have hl := lv_entry ([.ref (ad 0), .int (nI i), .int (nI 2)]) (n := 3) (Nat.le_of_ble_eq_true rfl)
  rw [lg_entry_eq]
  generalize (lg_sl ([.ref (ad 0), .int (nI i), .int (nI 2)]) ++ List.replicate (3 - (lg_sl ([.ref (ad 0), .int (nI i), .int (nI 2)])).length) Slot.unset).toArray = ls at hl ⊢
  have hl : lv_has ls 3 [(0, .ref (ad 0)), (1, .int (nI i)), (2, .int (nI 2))] := hl
  refine lv_iload_n hx hb d_B_transfer_0 rfl (lv_at hl 1 rfl) ?_
  refine lv_if_lt (tgt := 12) hx hb d_B_transfer_1 (by decide) (fun c1 => ?_) (fun c1 => ?_)
  · exact absurd c1 (nI_pos (by omega))
  · refine lv_iload_n hx hb d_B_transfer_4 rfl (lv_at hl 1 rfl) ?_
    refine lv_aload_n hx hb d_B_transfer_5 rfl (lv_at hl 0 rfl) ?_
    refine va_get (D := (dC, dI)) (ci := 0) (v := .int (nI tc)) (C := "ClearingBooks") (T := T_B) (N := 12) hx hb hts wi_B hown hK hP 0 rfl rfl 8 (by decide) (hts _ kw_25) (fun _ h9 => h9) rfl d_B_transfer_6 ?_
    refine lv_icmp_lt (tgt := 22) hx hb d_B_transfer_9 (by decide) (fun c2 => ?_) (fun c2 => ?_)
    · replace c2 := (nI_ltI (by omega) (by omega)).mp c2
      refine lv_iload_n hx hb d_B_transfer_22 rfl (lv_at hl 2 rfl) ?_
      refine lv_tableIn (tgt := 64) (off := 41) hx hb d_B_transfer_23 (by decide) (by decide) rfl (by decide) ?_
      refine lv_aload_n hx hb d_B_transfer_64 rfl (lv_at hl 0 rfl) ?_
      refine va_get (D := (dC, dI)) (ci := 0) (v := .ref (ad 10)) (C := "ClearingBooks") (T := T_B) (N := 12) hx hb hts wi_B hown hK hP 0 rfl rfl 11 (by decide) (hts _ kw_28) (fun _ h9 => h9) rfl d_B_transfer_65 ?_
      refine lv_iload_n hx hb d_B_transfer_68 rfl (lv_at hl 1 rfl) ?_
      refine xa_laload (f := pm) hx hb hK hP 10 1 rfl rfl (j := i) (by omega) (by decide) d_B_transfer_69 ?_
      exact W.lret (v := pm i) hx hb hr (fun t ht hW => ⟨rfl, ht⟩) (fun q hq => by cases hq) d_B_transfer_70
    · replace c2 := mt (nI_ltI (by omega) (by omega)).mpr c2
      exact absurd hi c2
set_option maxHeartbeats 4000000 in
set_option maxRecDepth 100000 in
theorem c_transfer_tk (l : Launch) (dC : Nat → ClassId) (dI : Nat → Nat → Nat) (ad : Nat → Nat) (cI cJ : ClassId) (n tc : Nat) (ki ra : Nat → Int32) (po se : Nat → Int64) (bc : Nat → Int32) (bs op : Nat → Int64) (pr pe : Nat → Int32) (pm : Nat → Int64) (x k : Int32) (hno : ¬ (¬ x < 0 ∧ x < nI tc)) (hl0 : l.stackTraces = false) : xt_Met l y_B_transfer (.code y_B_transfer b_B_transfer 3 (some .long) :: wAll) ({ frames := 6, cells := 1, slots := 6, locals := 90 } : Room) (ro_P [.ref (ad 0), .int x, .int k] (dC, dI) vwCl [(cI, .int), (cJ, .long)] (cb_w ad cI cJ n tc ki ra po se bc bs op pr pe pm) (xc_ok "ClearingBooks" cb_ks)) "java/lang/IllegalArgumentException" 1 6 := by
  refine xt_ofW (cc := b_B_transfer) (maxL := 3) (ret := (some .long)) (by decide) rfl ?_
  intro p e s m args below meth c s₁ B hml hv
  obtain ⟨rfl, hP, hK, hB⟩ := hv
  have hx := B.exec
  have hb := B.bytes
  have hr := B.returns
  have hts0 := atoms_spec (ws := (.code y_B_transfer b_B_transfer 3 (some .long) :: wAll)) B.pre
  have hts := hts_all hts0
  have hown : s.vm.findClass "ClearingBooks" = some m.cls := findClass_of_methodNamed B.named
  have hlocks := B.notSynchronized
  have hnh := B.noHandlers (hts0 _ List.mem_cons_self)
  have hout : ∀ pc9 : Nat, ∀ x ∈ c.exceptionTable.toList, covers x pc9 = false := fun pc9 x hx9 => by rw [xt_nil hnh] at hx9; cases hx9
  have hl := lv_entry ([.ref (ad 0), .int x, .int k]) (n := 3) (Nat.le_of_ble_eq_true rfl)
  rw [lg_entry_eq]
  generalize (lg_sl ([.ref (ad 0), .int x, .int k]) ++ List.replicate (3 - (lg_sl ([.ref (ad 0), .int x, .int k])).length) Slot.unset).toArray = ls at hl ⊢
  have hl : lv_has ls 3 [(0, .ref (ad 0)), (1, .int x), (2, .int k)] := hl
  refine lv_iload_n hx hb d_B_transfer_0 rfl (lv_at hl 1 rfl) ?_
  refine lv_if_lt (tgt := 12) hx hb d_B_transfer_1 (by decide) (fun c1 => ?_) (fun c1 => ?_)
  · obtain ⟨sa, hsa⟩ := hB.2.1 _ (List.mem_of_getElem? (l := cb_ks) (i := 5) rfl)
    exact xt_throw (names := ["java/lang/RuntimeException", "java/lang/Exception"]) hx hb hl0 hown (by decide) (by decide) (hts _ kw_104) (hts _ kw_6) hsa (xc_atoms hB hts at_iae) (by rw [hml]; exact hl.1) (Nat.le_refl _) d_B_transfer_12 d_B_transfer_15 d_B_transfer_16 d_B_transfer_18 d_B_transfer_21 (hout _) (Nat.le_of_ble_eq_true rfl) (Nat.le_of_ble_eq_true rfl) (Nat.le_of_ble_eq_true rfl) (Nat.le_of_ble_eq_true rfl) hlocks (Nat.le_of_ble_eq_true rfl) (Nat.le_of_ble_eq_true rfl)
  · refine lv_iload_n hx hb d_B_transfer_4 rfl (lv_at hl 1 rfl) ?_
    refine lv_aload_n hx hb d_B_transfer_5 rfl (lv_at hl 0 rfl) ?_
    refine va_get (D := (dC, dI)) (ci := 0) (v := .int (nI tc)) (C := "ClearingBooks") (T := T_B) (N := 12) hx hb hts wi_B hown hK hP 0 rfl rfl 8 (by decide) (hts _ kw_25) (fun _ h9 => h9) rfl d_B_transfer_6 ?_
    refine lv_icmp_lt (tgt := 22) hx hb d_B_transfer_9 (by decide) (fun c2 => ?_) (fun c2 => ?_)
    · exact absurd ⟨c1, c2⟩ hno
    · obtain ⟨sa, hsa⟩ := hB.2.1 _ (List.mem_of_getElem? (l := cb_ks) (i := 5) rfl)
      exact xt_throw (names := ["java/lang/RuntimeException", "java/lang/Exception"]) hx hb hl0 hown (by decide) (by decide) (hts _ kw_104) (hts _ kw_6) hsa (xc_atoms hB hts at_iae) (by rw [hml]; exact hl.1) (Nat.le_refl _) d_B_transfer_12 d_B_transfer_15 d_B_transfer_16 d_B_transfer_18 d_B_transfer_21 (hout _) (Nat.le_of_ble_eq_true rfl) (Nat.le_of_ble_eq_true rfl) (Nat.le_of_ble_eq_true rfl) (Nat.le_of_ble_eq_true rfl) hlocks (Nat.le_of_ble_eq_true rfl) (Nat.le_of_ble_eq_true rfl)
set_option maxHeartbeats 4000000 in
set_option maxRecDepth 100000 in
theorem c_transfer_tw (l : Launch) (dC : Nat → ClassId) (dI : Nat → Nat → Nat) (ad : Nat → Nat) (cI cJ : ClassId) (n tc : Nat) (ki ra : Nat → Int32) (po se : Nat → Int64) (bc : Nat → Int32) (bs op : Nat → Int64) (pr pe : Nat → Int32) (pm : Nat → Int64) (i : Nat) (k : Int32) (hi : i < tc) (htc : tc ≤ 14) (hw : k.toInt < 0 ∨ 2 < k.toInt) (hl0 : l.stackTraces = false) : xt_Met l y_B_transfer (.code y_B_transfer b_B_transfer 3 (some .long) :: wAll) ({ frames := 6, cells := 1, slots := 6, locals := 90 } : Room) (ro_P [.ref (ad 0), .int (nI i), .int k] (dC, dI) vwCl [(cI, .int), (cJ, .long)] (cb_w ad cI cJ n tc ki ra po se bc bs op pr pe pm) (xc_ok "ClearingBooks" cb_ks)) "java/lang/IllegalArgumentException" 1 6 := by
  refine xt_ofW (cc := b_B_transfer) (maxL := 3) (ret := (some .long)) (by decide) rfl ?_
  intro p e s m args below meth c s₁ B hml hv
  obtain ⟨rfl, hP, hK, hB⟩ := hv
  have hx := B.exec
  have hb := B.bytes
  have hr := B.returns
  have hts0 := atoms_spec (ws := (.code y_B_transfer b_B_transfer 3 (some .long) :: wAll)) B.pre
  have hts := hts_all hts0
  have hown : s.vm.findClass "ClearingBooks" = some m.cls := findClass_of_methodNamed B.named
  have hlocks := B.notSynchronized
  have hnh := B.noHandlers (hts0 _ List.mem_cons_self)
  have hout : ∀ pc9 : Nat, ∀ x ∈ c.exceptionTable.toList, covers x pc9 = false := fun pc9 x hx9 => by rw [xt_nil hnh] at hx9; cases hx9
  have hl := lv_entry ([.ref (ad 0), .int (nI i), .int k]) (n := 3) (Nat.le_of_ble_eq_true rfl)
  rw [lg_entry_eq]
  generalize (lg_sl ([.ref (ad 0), .int (nI i), .int k]) ++ List.replicate (3 - (lg_sl ([.ref (ad 0), .int (nI i), .int k])).length) Slot.unset).toArray = ls at hl ⊢
  have hl : lv_has ls 3 [(0, .ref (ad 0)), (1, .int (nI i)), (2, .int k)] := hl
  refine lv_iload_n hx hb d_B_transfer_0 rfl (lv_at hl 1 rfl) ?_
  refine lv_if_lt (tgt := 12) hx hb d_B_transfer_1 (by decide) (fun c1 => ?_) (fun c1 => ?_)
  · exact absurd c1 (nI_pos (by omega))
  · refine lv_iload_n hx hb d_B_transfer_4 rfl (lv_at hl 1 rfl) ?_
    refine lv_aload_n hx hb d_B_transfer_5 rfl (lv_at hl 0 rfl) ?_
    refine va_get (D := (dC, dI)) (ci := 0) (v := .int (nI tc)) (C := "ClearingBooks") (T := T_B) (N := 12) hx hb hts wi_B hown hK hP 0 rfl rfl 8 (by decide) (hts _ kw_25) (fun _ h9 => h9) rfl d_B_transfer_6 ?_
    refine lv_icmp_lt (tgt := 22) hx hb d_B_transfer_9 (by decide) (fun c2 => ?_) (fun c2 => ?_)
    · replace c2 := (nI_ltI (by omega) (by omega)).mp c2
      refine lv_iload_n hx hb d_B_transfer_22 rfl (lv_at hl 2 rfl) ?_
      refine lv_tableOut (tgt := 71) hx hb d_B_transfer_23 hw (by decide) ?_
      obtain ⟨sa, hsa⟩ := hB.2.1 _ (List.mem_of_getElem? (l := cb_ks) (i := 6) rfl)
      exact xt_throw (names := ["java/lang/RuntimeException", "java/lang/Exception"]) hx hb hl0 hown (by decide) (by decide) (hts _ kw_104) (hts _ kw_6) hsa (xc_atoms hB hts at_iae) (by rw [hml]; exact hl.1) (Nat.le_refl _) d_B_transfer_71 d_B_transfer_74 d_B_transfer_75 d_B_transfer_77 d_B_transfer_80 (hout _) (Nat.le_of_ble_eq_true rfl) (Nat.le_of_ble_eq_true rfl) (Nat.le_of_ble_eq_true rfl) (Nat.le_of_ble_eq_true rfl) hlocks (Nat.le_of_ble_eq_true rfl) (Nat.le_of_ble_eq_true rfl)
    · replace c2 := mt (nI_ltI (by omega) (by omega)).mpr c2
      exact absurd hi c2
set_option maxHeartbeats 4000000 in
set_option maxRecDepth 100000 in
theorem c_party_y0 (l : Launch) (dC : Nat → ClassId) (dI : Nat → Nat → Nat) (ad : Nat → Nat) (cI cJ : ClassId) (n tc : Nat) (ki ra : Nat → Int32) (po se : Nat → Int64) (bc : Nat → Int32) (bs op : Nat → Int64) (pr pe : Nat → Int32) (pm : Nat → Int64) (i : Nat) (hi : i < n) (hn : n ≤ 15) : Met l y_B_party (.code y_B_party b_B_party 3 (some .long) :: wAll) ({ frames := 1, cells := 0, slots := 0, locals := 24 } : Room) (ro_P [.ref (ad 0), .int (nI i), .int (nI 0)] (dC, dI) vwCl [(cI, .int), (cJ, .long)] (cb_w ad cI cJ n tc ki ra po se bc bs op pr pe pm) (fun _ => True)) (ro_Q (some (.long (po i)))) 0 0 (fun _ => False) := by
  refine Met.ofW (cc := b_B_party) (maxL := 3) (ret := (some .long)) (by decide) rfl ?_
  intro p e s m args below meth c s₁ B hml hv
  obtain ⟨rfl, hP, hK, hB⟩ := hv
  have hx := B.exec
  have hb := B.bytes
  have hr := B.returns
  have hts0 := atoms_spec (ws := (.code y_B_party b_B_party 3 (some .long) :: wAll)) B.pre
  have hts := hts_all hts0
  have hown : s.vm.findClass "ClearingBooks" = some m.cls := findClass_of_methodNamed B.named
  have hlocks := B.notSynchronized
  have hl := lv_entry ([.ref (ad 0), .int (nI i), .int (nI 0)]) (n := 3) (Nat.le_of_ble_eq_true rfl)
  rw [lg_entry_eq]
  generalize (lg_sl ([.ref (ad 0), .int (nI i), .int (nI 0)]) ++ List.replicate (3 - (lg_sl ([.ref (ad 0), .int (nI i), .int (nI 0)])).length) Slot.unset).toArray = ls at hl ⊢
  have hl : lv_has ls 3 [(0, .ref (ad 0)), (1, .int (nI i)), (2, .int (nI 0))] := hl
  refine lv_aload_n hx hb d_B_party_0 rfl (lv_at hl 0 rfl) ?_
  refine lv_iload_n hx hb d_B_party_1 rfl (lv_at hl 1 rfl) ?_
  refine ro_call (va_runV (As := [.int (nI i)]) (rest := []) ⟨hx, hb, hml, hown, hts⟩ (c_isParty_y l dC dI ad cI cJ n tc ki ra po se bc bs op pr pe pm i hi hn) (cwV 1 hts (wAll_v kw_205 kw_207 ks_8 kw_1 kw_208) rfl rfl rfl (by decide +kernel) ⟨Nat.le_of_ble_eq_true rfl, Nat.le_of_ble_eq_true rfl⟩) (ro_preV bl_tt hK hP (ci := 0) (q0 := 0) rfl rfl (fun _ _ _ => trivial)) rfl rfl hl.1 rfl (lv_room (Nat.le_of_ble_eq_true rfl)) d_B_party_2 ⟨Nat.le_of_ble_eq_true rfl, Nat.le_of_ble_eq_true rfl⟩) ?_
  refine W.eq (g2 := F0 m 5 ls [.int (nI 1)]) rfl ?_
  refine lv_if_ne (tgt := 18) hx hb d_B_party_5 (by decide) (fun c1 => ?_) (fun c1 => ?_)
  · refine lv_iload_n hx hb d_B_party_18 rfl (lv_at hl 2 rfl) ?_
    refine lv_tableIn (tgt := 52) (off := 33) hx hb d_B_party_19 (by decide) (by decide) rfl (by decide) ?_
    refine lv_aload_n hx hb d_B_party_52 rfl (lv_at hl 0 rfl) ?_
    refine va_get (D := (dC, dI)) (ci := 0) (v := .ref (ad 3)) (C := "ClearingBooks") (T := T_B) (N := 12) hx hb hts wi_B hown hK hP 0 rfl rfl 3 (by decide) (hts _ kw_20) (fun _ h9 => h9) rfl d_B_party_53 ?_
    refine lv_iload_n hx hb d_B_party_56 rfl (lv_at hl 1 rfl) ?_
    refine xa_laload (f := po) hx hb hK hP 3 1 rfl rfl (j := i) (by omega) (by decide) d_B_party_57 ?_
    exact W.lret (v := po i) hx hb hr (fun t ht hW => ⟨rfl, ht⟩) (fun q hq => by cases hq) d_B_party_58
  · exact absurd c1 (by decide)
set_option maxHeartbeats 4000000 in
set_option maxRecDepth 100000 in
theorem c_party_y1 (l : Launch) (dC : Nat → ClassId) (dI : Nat → Nat → Nat) (ad : Nat → Nat) (cI cJ : ClassId) (n tc : Nat) (ki ra : Nat → Int32) (po se : Nat → Int64) (bc : Nat → Int32) (bs op : Nat → Int64) (pr pe : Nat → Int32) (pm : Nat → Int64) (i : Nat) (hi : i < n) (hn : n ≤ 15) : Met l y_B_party (.code y_B_party b_B_party 3 (some .long) :: wAll) ({ frames := 1, cells := 0, slots := 0, locals := 24 } : Room) (ro_P [.ref (ad 0), .int (nI i), .int (nI 1)] (dC, dI) vwCl [(cI, .int), (cJ, .long)] (cb_w ad cI cJ n tc ki ra po se bc bs op pr pe pm) (fun _ => True)) (ro_Q (some (.long (se i)))) 0 0 (fun _ => False) := by
  refine Met.ofW (cc := b_B_party) (maxL := 3) (ret := (some .long)) (by decide) rfl ?_
  intro p e s m args below meth c s₁ B hml hv
  obtain ⟨rfl, hP, hK, hB⟩ := hv
  have hx := B.exec
  have hb := B.bytes
  have hr := B.returns
  have hts0 := atoms_spec (ws := (.code y_B_party b_B_party 3 (some .long) :: wAll)) B.pre
  have hts := hts_all hts0
  have hown : s.vm.findClass "ClearingBooks" = some m.cls := findClass_of_methodNamed B.named
  have hlocks := B.notSynchronized
  have hl := lv_entry ([.ref (ad 0), .int (nI i), .int (nI 1)]) (n := 3) (Nat.le_of_ble_eq_true rfl)
  rw [lg_entry_eq]
  generalize (lg_sl ([.ref (ad 0), .int (nI i), .int (nI 1)]) ++ List.replicate (3 - (lg_sl ([.ref (ad 0), .int (nI i), .int (nI 1)])).length) Slot.unset).toArray = ls at hl ⊢
  have hl : lv_has ls 3 [(0, .ref (ad 0)), (1, .int (nI i)), (2, .int (nI 1))] := hl
  refine lv_aload_n hx hb d_B_party_0 rfl (lv_at hl 0 rfl) ?_
  refine lv_iload_n hx hb d_B_party_1 rfl (lv_at hl 1 rfl) ?_
  refine ro_call (va_runV (As := [.int (nI i)]) (rest := []) ⟨hx, hb, hml, hown, hts⟩ (c_isParty_y l dC dI ad cI cJ n tc ki ra po se bc bs op pr pe pm i hi hn) (cwV 1 hts (wAll_v kw_205 kw_207 ks_8 kw_1 kw_208) rfl rfl rfl (by decide +kernel) ⟨Nat.le_of_ble_eq_true rfl, Nat.le_of_ble_eq_true rfl⟩) (ro_preV bl_tt hK hP (ci := 0) (q0 := 0) rfl rfl (fun _ _ _ => trivial)) rfl rfl hl.1 rfl (lv_room (Nat.le_of_ble_eq_true rfl)) d_B_party_2 ⟨Nat.le_of_ble_eq_true rfl, Nat.le_of_ble_eq_true rfl⟩) ?_
  refine W.eq (g2 := F0 m 5 ls [.int (nI 1)]) rfl ?_
  refine lv_if_ne (tgt := 18) hx hb d_B_party_5 (by decide) (fun c1 => ?_) (fun c1 => ?_)
  · refine lv_iload_n hx hb d_B_party_18 rfl (lv_at hl 2 rfl) ?_
    refine lv_tableIn (tgt := 59) (off := 40) hx hb d_B_party_19 (by decide) (by decide) rfl (by decide) ?_
    refine lv_aload_n hx hb d_B_party_59 rfl (lv_at hl 0 rfl) ?_
    refine va_get (D := (dC, dI)) (ci := 0) (v := .ref (ad 4)) (C := "ClearingBooks") (T := T_B) (N := 12) hx hb hts wi_B hown hK hP 0 rfl rfl 4 (by decide) (hts _ kw_21) (fun _ h9 => h9) rfl d_B_party_60 ?_
    refine lv_iload_n hx hb d_B_party_63 rfl (lv_at hl 1 rfl) ?_
    refine xa_laload (f := se) hx hb hK hP 4 1 rfl rfl (j := i) (by omega) (by decide) d_B_party_64 ?_
    exact W.lret (v := se i) hx hb hr (fun t ht hW => ⟨rfl, ht⟩) (fun q hq => by cases hq) d_B_party_65
  · exact absurd c1 (by decide)
set_option maxHeartbeats 4000000 in
set_option maxRecDepth 100000 in
theorem c_party_y2 (l : Launch) (dC : Nat → ClassId) (dI : Nat → Nat → Nat) (ad : Nat → Nat) (cI cJ : ClassId) (n tc : Nat) (ki ra : Nat → Int32) (po se : Nat → Int64) (bc : Nat → Int32) (bs op : Nat → Int64) (pr pe : Nat → Int32) (pm : Nat → Int64) (i : Nat) (hi : i < n) (hn : n ≤ 15) : Met l y_B_party (.code y_B_party b_B_party 3 (some .long) :: wAll) ({ frames := 1, cells := 0, slots := 0, locals := 24 } : Room) (ro_P [.ref (ad 0), .int (nI i), .int (nI 2)] (dC, dI) vwCl [(cI, .int), (cJ, .long)] (cb_w ad cI cJ n tc ki ra po se bc bs op pr pe pm) (fun _ => True)) (ro_Q (some (.long ((ki i).toInt64)))) 0 0 (fun _ => False) := by
  refine Met.ofW (cc := b_B_party) (maxL := 3) (ret := (some .long)) (by decide) rfl ?_
  intro p e s m args below meth c s₁ B hml hv
  obtain ⟨rfl, hP, hK, hB⟩ := hv
  have hx := B.exec
  have hb := B.bytes
  have hr := B.returns
  have hts0 := atoms_spec (ws := (.code y_B_party b_B_party 3 (some .long) :: wAll)) B.pre
  have hts := hts_all hts0
  have hown : s.vm.findClass "ClearingBooks" = some m.cls := findClass_of_methodNamed B.named
  have hlocks := B.notSynchronized
  have hl := lv_entry ([.ref (ad 0), .int (nI i), .int (nI 2)]) (n := 3) (Nat.le_of_ble_eq_true rfl)
  rw [lg_entry_eq]
  generalize (lg_sl ([.ref (ad 0), .int (nI i), .int (nI 2)]) ++ List.replicate (3 - (lg_sl ([.ref (ad 0), .int (nI i), .int (nI 2)])).length) Slot.unset).toArray = ls at hl ⊢
  have hl : lv_has ls 3 [(0, .ref (ad 0)), (1, .int (nI i)), (2, .int (nI 2))] := hl
  refine lv_aload_n hx hb d_B_party_0 rfl (lv_at hl 0 rfl) ?_
  refine lv_iload_n hx hb d_B_party_1 rfl (lv_at hl 1 rfl) ?_
  refine ro_call (va_runV (As := [.int (nI i)]) (rest := []) ⟨hx, hb, hml, hown, hts⟩ (c_isParty_y l dC dI ad cI cJ n tc ki ra po se bc bs op pr pe pm i hi hn) (cwV 1 hts (wAll_v kw_205 kw_207 ks_8 kw_1 kw_208) rfl rfl rfl (by decide +kernel) ⟨Nat.le_of_ble_eq_true rfl, Nat.le_of_ble_eq_true rfl⟩) (ro_preV bl_tt hK hP (ci := 0) (q0 := 0) rfl rfl (fun _ _ _ => trivial)) rfl rfl hl.1 rfl (lv_room (Nat.le_of_ble_eq_true rfl)) d_B_party_2 ⟨Nat.le_of_ble_eq_true rfl, Nat.le_of_ble_eq_true rfl⟩) ?_
  refine W.eq (g2 := F0 m 5 ls [.int (nI 1)]) rfl ?_
  refine lv_if_ne (tgt := 18) hx hb d_B_party_5 (by decide) (fun c1 => ?_) (fun c1 => ?_)
  · refine lv_iload_n hx hb d_B_party_18 rfl (lv_at hl 2 rfl) ?_
    refine lv_tableIn (tgt := 66) (off := 47) hx hb d_B_party_19 (by decide) (by decide) rfl (by decide) ?_
    refine lv_aload_n hx hb d_B_party_66 rfl (lv_at hl 0 rfl) ?_
    refine va_get (D := (dC, dI)) (ci := 0) (v := .ref (ad 1)) (C := "ClearingBooks") (T := T_B) (N := 12) hx hb hts wi_B hown hK hP 0 rfl rfl 1 (by decide) (hts _ kw_18) (fun _ h9 => h9) rfl d_B_party_67 ?_
    refine lv_iload_n hx hb d_B_party_70 rfl (lv_at hl 1 rfl) ?_
    refine xa_iaload (f := ki) hx hb hK hP 1 0 rfl rfl (j := i) (by omega) (by decide) d_B_party_71 ?_
    refine lv_i2l (v := (ki i).toInt64) hx hb d_B_party_72 rfl ?_
    exact W.lret (v := (ki i).toInt64) hx hb hr (fun t ht hW => ⟨rfl, ht⟩) (fun q hq => by cases hq) d_B_party_73
  · exact absurd c1 (by decide)
set_option maxHeartbeats 4000000 in
set_option maxRecDepth 100000 in
theorem c_party_y3 (l : Launch) (dC : Nat → ClassId) (dI : Nat → Nat → Nat) (ad : Nat → Nat) (cI cJ : ClassId) (n tc : Nat) (ki ra : Nat → Int32) (po se : Nat → Int64) (bc : Nat → Int32) (bs op : Nat → Int64) (pr pe : Nat → Int32) (pm : Nat → Int64) (i : Nat) (hi : i < n) (hn : n ≤ 15) : Met l y_B_party (.code y_B_party b_B_party 3 (some .long) :: wAll) ({ frames := 1, cells := 0, slots := 0, locals := 24 } : Room) (ro_P [.ref (ad 0), .int (nI i), .int (nI 3)] (dC, dI) vwCl [(cI, .int), (cJ, .long)] (cb_w ad cI cJ n tc ki ra po se bc bs op pr pe pm) (fun _ => True)) (ro_Q (some (.long ((ra i).toInt64)))) 0 0 (fun _ => False) := by
  refine Met.ofW (cc := b_B_party) (maxL := 3) (ret := (some .long)) (by decide) rfl ?_
  intro p e s m args below meth c s₁ B hml hv
  obtain ⟨rfl, hP, hK, hB⟩ := hv
  have hx := B.exec
  have hb := B.bytes
  have hr := B.returns
  have hts0 := atoms_spec (ws := (.code y_B_party b_B_party 3 (some .long) :: wAll)) B.pre
  have hts := hts_all hts0
  have hown : s.vm.findClass "ClearingBooks" = some m.cls := findClass_of_methodNamed B.named
  have hlocks := B.notSynchronized
  have hl := lv_entry ([.ref (ad 0), .int (nI i), .int (nI 3)]) (n := 3) (Nat.le_of_ble_eq_true rfl)
  rw [lg_entry_eq]
  generalize (lg_sl ([.ref (ad 0), .int (nI i), .int (nI 3)]) ++ List.replicate (3 - (lg_sl ([.ref (ad 0), .int (nI i), .int (nI 3)])).length) Slot.unset).toArray = ls at hl ⊢
  have hl : lv_has ls 3 [(0, .ref (ad 0)), (1, .int (nI i)), (2, .int (nI 3))] := hl
  refine lv_aload_n hx hb d_B_party_0 rfl (lv_at hl 0 rfl) ?_
  refine lv_iload_n hx hb d_B_party_1 rfl (lv_at hl 1 rfl) ?_
  refine ro_call (va_runV (As := [.int (nI i)]) (rest := []) ⟨hx, hb, hml, hown, hts⟩ (c_isParty_y l dC dI ad cI cJ n tc ki ra po se bc bs op pr pe pm i hi hn) (cwV 1 hts (wAll_v kw_205 kw_207 ks_8 kw_1 kw_208) rfl rfl rfl (by decide +kernel) ⟨Nat.le_of_ble_eq_true rfl, Nat.le_of_ble_eq_true rfl⟩) (ro_preV bl_tt hK hP (ci := 0) (q0 := 0) rfl rfl (fun _ _ _ => trivial)) rfl rfl hl.1 rfl (lv_room (Nat.le_of_ble_eq_true rfl)) d_B_party_2 ⟨Nat.le_of_ble_eq_true rfl, Nat.le_of_ble_eq_true rfl⟩) ?_
  refine W.eq (g2 := F0 m 5 ls [.int (nI 1)]) rfl ?_
  refine lv_if_ne (tgt := 18) hx hb d_B_party_5 (by decide) (fun c1 => ?_) (fun c1 => ?_)
  · refine lv_iload_n hx hb d_B_party_18 rfl (lv_at hl 2 rfl) ?_
    refine lv_tableIn (tgt := 74) (off := 55) hx hb d_B_party_19 (by decide) (by decide) rfl (by decide) ?_
    refine lv_aload_n hx hb d_B_party_74 rfl (lv_at hl 0 rfl) ?_
    refine va_get (D := (dC, dI)) (ci := 0) (v := .ref (ad 2)) (C := "ClearingBooks") (T := T_B) (N := 12) hx hb hts wi_B hown hK hP 0 rfl rfl 2 (by decide) (hts _ kw_19) (fun _ h9 => h9) rfl d_B_party_75 ?_
    refine lv_iload_n hx hb d_B_party_78 rfl (lv_at hl 1 rfl) ?_
    refine xa_iaload (f := ra) hx hb hK hP 2 0 rfl rfl (j := i) (by omega) (by decide) d_B_party_79 ?_
    refine lv_i2l (v := (ra i).toInt64) hx hb d_B_party_80 rfl ?_
    exact W.lret (v := (ra i).toInt64) hx hb hr (fun t ht hW => ⟨rfl, ht⟩) (fun q hq => by cases hq) d_B_party_81
  · exact absurd c1 (by decide)
set_option maxHeartbeats 4000000 in
set_option maxRecDepth 100000 in
theorem c_party_y4 (l : Launch) (dC : Nat → ClassId) (dI : Nat → Nat → Nat) (ad : Nat → Nat) (cI cJ : ClassId) (n tc : Nat) (ki ra : Nat → Int32) (po se : Nat → Int64) (bc : Nat → Int32) (bs op : Nat → Int64) (pr pe : Nat → Int32) (pm : Nat → Int64) (i : Nat) (hi : i < n) (hn : n ≤ 15) : Met l y_B_party (.code y_B_party b_B_party 3 (some .long) :: wAll) ({ frames := 1, cells := 0, slots := 0, locals := 24 } : Room) (ro_P [.ref (ad 0), .int (nI i), .int (nI 4)] (dC, dI) vwCl [(cI, .int), (cJ, .long)] (cb_w ad cI cJ n tc ki ra po se bc bs op pr pe pm) (fun _ => True)) (ro_Q (some (.long ((nI (pl po i n)).toInt64)))) 0 0 (fun _ => False) := by
  refine Met.ofW (cc := b_B_party) (maxL := 3) (ret := (some .long)) (by decide) rfl ?_
  intro p e s m args below meth c s₁ B hml hv
  obtain ⟨rfl, hP, hK, hB⟩ := hv
  have hx := B.exec
  have hb := B.bytes
  have hr := B.returns
  have hts0 := atoms_spec (ws := (.code y_B_party b_B_party 3 (some .long) :: wAll)) B.pre
  have hts := hts_all hts0
  have hown : s.vm.findClass "ClearingBooks" = some m.cls := findClass_of_methodNamed B.named
  have hlocks := B.notSynchronized
  have hl := lv_entry ([.ref (ad 0), .int (nI i), .int (nI 4)]) (n := 3) (Nat.le_of_ble_eq_true rfl)
  rw [lg_entry_eq]
  generalize (lg_sl ([.ref (ad 0), .int (nI i), .int (nI 4)]) ++ List.replicate (3 - (lg_sl ([.ref (ad 0), .int (nI i), .int (nI 4)])).length) Slot.unset).toArray = ls at hl ⊢
  have hl : lv_has ls 3 [(0, .ref (ad 0)), (1, .int (nI i)), (2, .int (nI 4))] := hl
  refine lv_aload_n hx hb d_B_party_0 rfl (lv_at hl 0 rfl) ?_
  refine lv_iload_n hx hb d_B_party_1 rfl (lv_at hl 1 rfl) ?_
  refine ro_call (va_runV (As := [.int (nI i)]) (rest := []) ⟨hx, hb, hml, hown, hts⟩ (c_isParty_y l dC dI ad cI cJ n tc ki ra po se bc bs op pr pe pm i hi hn) (cwV 1 hts (wAll_v kw_205 kw_207 ks_8 kw_1 kw_208) rfl rfl rfl (by decide +kernel) ⟨Nat.le_of_ble_eq_true rfl, Nat.le_of_ble_eq_true rfl⟩) (ro_preV bl_tt hK hP (ci := 0) (q0 := 0) rfl rfl (fun _ _ _ => trivial)) rfl rfl hl.1 rfl (lv_room (Nat.le_of_ble_eq_true rfl)) d_B_party_2 ⟨Nat.le_of_ble_eq_true rfl, Nat.le_of_ble_eq_true rfl⟩) ?_
  refine W.eq (g2 := F0 m 5 ls [.int (nI 1)]) rfl ?_
  refine lv_if_ne (tgt := 18) hx hb d_B_party_5 (by decide) (fun c1 => ?_) (fun c1 => ?_)
  · refine lv_iload_n hx hb d_B_party_18 rfl (lv_at hl 2 rfl) ?_
    refine lv_tableIn (tgt := 82) (off := 63) hx hb d_B_party_19 (by decide) (by decide) rfl (by decide) ?_
    refine lv_aload_n hx hb d_B_party_82 rfl (lv_at hl 0 rfl) ?_
    refine lv_iload_n hx hb d_B_party_83 rfl (lv_at hl 1 rfl) ?_
    refine ro_call (va_runV (As := [.int (nI i)]) (rest := []) ⟨hx, hb, hml, hown, hts⟩ (c_placeOf l dC dI ad cI cJ n tc ki ra po se bc bs op pr pe pm i hi hn) (cwV 1 hts (wAll_v kw_262 kw_264 ks_9 kw_1 kw_265) rfl rfl rfl (by decide +kernel) ⟨Nat.le_of_ble_eq_true rfl, Nat.le_of_ble_eq_true rfl⟩) (ro_preV bl_tt hK hP (ci := 0) (q0 := 0) rfl rfl (fun _ _ _ => trivial)) rfl rfl hl.1 rfl (lv_room (Nat.le_of_ble_eq_true rfl)) d_B_party_84 ⟨Nat.le_of_ble_eq_true rfl, Nat.le_of_ble_eq_true rfl⟩) ?_
    refine W.eq (g2 := F0 m 87 ls [.int (nI (pl po i n))]) rfl ?_
    refine lv_i2l (v := (nI (pl po i n)).toInt64) hx hb d_B_party_87 rfl ?_
    exact W.lret (v := (nI (pl po i n)).toInt64) hx hb hr (fun t ht hW => ⟨rfl, ht⟩) (fun q hq => by cases hq) d_B_party_88
  · exact absurd c1 (by decide)
set_option maxHeartbeats 4000000 in
set_option maxRecDepth 100000 in
theorem c_party_tk (l : Launch) (dC : Nat → ClassId) (dI : Nat → Nat → Nat) (ad : Nat → Nat) (cI cJ : ClassId) (n tc : Nat) (ki ra : Nat → Int32) (po se : Nat → Int64) (bc : Nat → Int32) (bs op : Nat → Int64) (pr pe : Nat → Int32) (pm : Nat → Int64) (x k : Int32) (hno : ¬ (¬ x < 0 ∧ x < nI n)) (hl0 : l.stackTraces = false) : xt_Met l y_B_party (.code y_B_party b_B_party 3 (some .long) :: wAll) ({ frames := 6, cells := 1, slots := 6, locals := 90 } : Room) (ro_P [.ref (ad 0), .int x, .int k] (dC, dI) vwCl [(cI, .int), (cJ, .long)] (cb_w ad cI cJ n tc ki ra po se bc bs op pr pe pm) (xc_ok "ClearingBooks" cb_ks)) "java/lang/IllegalArgumentException" 1 6 := by
  refine xt_ofW (cc := b_B_party) (maxL := 3) (ret := (some .long)) (by decide) rfl ?_
  intro p e s m args below meth c s₁ B hml hv
  obtain ⟨rfl, hP, hK, hB⟩ := hv
  have hx := B.exec
  have hb := B.bytes
  have hr := B.returns
  have hts0 := atoms_spec (ws := (.code y_B_party b_B_party 3 (some .long) :: wAll)) B.pre
  have hts := hts_all hts0
  have hown : s.vm.findClass "ClearingBooks" = some m.cls := findClass_of_methodNamed B.named
  have hlocks := B.notSynchronized
  have hnh := B.noHandlers (hts0 _ List.mem_cons_self)
  have hout : ∀ pc9 : Nat, ∀ x ∈ c.exceptionTable.toList, covers x pc9 = false := fun pc9 x hx9 => by rw [xt_nil hnh] at hx9; cases hx9
  have hl := lv_entry ([.ref (ad 0), .int x, .int k]) (n := 3) (Nat.le_of_ble_eq_true rfl)
  rw [lg_entry_eq]
  generalize (lg_sl ([.ref (ad 0), .int x, .int k]) ++ List.replicate (3 - (lg_sl ([.ref (ad 0), .int x, .int k])).length) Slot.unset).toArray = ls at hl ⊢
  have hl : lv_has ls 3 [(0, .ref (ad 0)), (1, .int x), (2, .int k)] := hl
  refine lv_aload_n hx hb d_B_party_0 rfl (lv_at hl 0 rfl) ?_
  refine lv_iload_n hx hb d_B_party_1 rfl (lv_at hl 1 rfl) ?_
  refine ro_call (va_runV (As := [.int x]) (rest := []) ⟨hx, hb, hml, hown, hts⟩ (c_isParty_n l dC dI ad cI cJ n tc ki ra po se bc bs op pr pe pm x hno) (cwV 1 hts (wAll_v kw_205 kw_207 ks_8 kw_1 kw_208) rfl rfl rfl (by decide +kernel) ⟨Nat.le_of_ble_eq_true rfl, Nat.le_of_ble_eq_true rfl⟩) (ro_preV bl_tt hK hP (ci := 0) (q0 := 0) rfl rfl (fun _ _ _ => trivial)) rfl rfl hl.1 rfl (lv_room (Nat.le_of_ble_eq_true rfl)) d_B_party_2 ⟨Nat.le_of_ble_eq_true rfl, Nat.le_of_ble_eq_true rfl⟩) ?_
  refine W.eq (g2 := F0 m 5 ls [.int (nI 0)]) rfl ?_
  refine lv_if_ne (tgt := 18) hx hb d_B_party_5 (by decide) (fun c1 => ?_) (fun c1 => ?_)
  · exact absurd rfl c1
  · obtain ⟨sa, hsa⟩ := hB.2.1 _ (List.mem_of_getElem? (l := cb_ks) (i := 7) rfl)
    exact xt_throw (names := ["java/lang/RuntimeException", "java/lang/Exception"]) hx hb hl0 hown (by decide) (by decide) (hts _ kw_104) (hts _ kw_6) hsa (xc_atoms hB hts at_iae) (by rw [hml]; exact hl.1) (Nat.le_refl _) d_B_party_8 d_B_party_11 d_B_party_12 d_B_party_14 d_B_party_17 (hout _) (Nat.le_of_ble_eq_true rfl) (Nat.le_of_ble_eq_true rfl) (Nat.le_of_ble_eq_true rfl) (Nat.le_of_ble_eq_true rfl) hlocks (Nat.le_of_ble_eq_true rfl) (Nat.le_of_ble_eq_true rfl)
set_option maxHeartbeats 4000000 in
set_option maxRecDepth 100000 in
theorem c_party_tw (l : Launch) (dC : Nat → ClassId) (dI : Nat → Nat → Nat) (ad : Nat → Nat) (cI cJ : ClassId) (n tc : Nat) (ki ra : Nat → Int32) (po se : Nat → Int64) (bc : Nat → Int32) (bs op : Nat → Int64) (pr pe : Nat → Int32) (pm : Nat → Int64) (i : Nat) (k : Int32) (hi : i < n) (hn : n ≤ 15) (hw : k.toInt < 0 ∨ 4 < k.toInt) (hl0 : l.stackTraces = false) : xt_Met l y_B_party (.code y_B_party b_B_party 3 (some .long) :: wAll) ({ frames := 6, cells := 1, slots := 6, locals := 90 } : Room) (ro_P [.ref (ad 0), .int (nI i), .int k] (dC, dI) vwCl [(cI, .int), (cJ, .long)] (cb_w ad cI cJ n tc ki ra po se bc bs op pr pe pm) (xc_ok "ClearingBooks" cb_ks)) "java/lang/IllegalArgumentException" 1 6 := by
  refine xt_ofW (cc := b_B_party) (maxL := 3) (ret := (some .long)) (by decide) rfl ?_
  intro p e s m args below meth c s₁ B hml hv
  obtain ⟨rfl, hP, hK, hB⟩ := hv
  have hx := B.exec
  have hb := B.bytes
  have hr := B.returns
  have hts0 := atoms_spec (ws := (.code y_B_party b_B_party 3 (some .long) :: wAll)) B.pre
  have hts := hts_all hts0
  have hown : s.vm.findClass "ClearingBooks" = some m.cls := findClass_of_methodNamed B.named
  have hlocks := B.notSynchronized
  have hnh := B.noHandlers (hts0 _ List.mem_cons_self)
  have hout : ∀ pc9 : Nat, ∀ x ∈ c.exceptionTable.toList, covers x pc9 = false := fun pc9 x hx9 => by rw [xt_nil hnh] at hx9; cases hx9
  have hl := lv_entry ([.ref (ad 0), .int (nI i), .int k]) (n := 3) (Nat.le_of_ble_eq_true rfl)
  rw [lg_entry_eq]
  generalize (lg_sl ([.ref (ad 0), .int (nI i), .int k]) ++ List.replicate (3 - (lg_sl ([.ref (ad 0), .int (nI i), .int k])).length) Slot.unset).toArray = ls at hl ⊢
  have hl : lv_has ls 3 [(0, .ref (ad 0)), (1, .int (nI i)), (2, .int k)] := hl
  refine lv_aload_n hx hb d_B_party_0 rfl (lv_at hl 0 rfl) ?_
  refine lv_iload_n hx hb d_B_party_1 rfl (lv_at hl 1 rfl) ?_
  refine ro_call (va_runV (As := [.int (nI i)]) (rest := []) ⟨hx, hb, hml, hown, hts⟩ (c_isParty_y l dC dI ad cI cJ n tc ki ra po se bc bs op pr pe pm i hi hn) (cwV 1 hts (wAll_v kw_205 kw_207 ks_8 kw_1 kw_208) rfl rfl rfl (by decide +kernel) ⟨Nat.le_of_ble_eq_true rfl, Nat.le_of_ble_eq_true rfl⟩) (ro_preV bl_tt hK hP (ci := 0) (q0 := 0) rfl rfl (fun _ _ _ => trivial)) rfl rfl hl.1 rfl (lv_room (Nat.le_of_ble_eq_true rfl)) d_B_party_2 ⟨Nat.le_of_ble_eq_true rfl, Nat.le_of_ble_eq_true rfl⟩) ?_
  refine W.eq (g2 := F0 m 5 ls [.int (nI 1)]) rfl ?_
  refine lv_if_ne (tgt := 18) hx hb d_B_party_5 (by decide) (fun c1 => ?_) (fun c1 => ?_)
  · refine lv_iload_n hx hb d_B_party_18 rfl (lv_at hl 2 rfl) ?_
    refine lv_tableOut (tgt := 89) hx hb d_B_party_19 hw (by decide) ?_
    obtain ⟨sa, hsa⟩ := hB.2.1 _ (List.mem_of_getElem? (l := cb_ks) (i := 8) rfl)
    exact xt_throw (names := ["java/lang/RuntimeException", "java/lang/Exception"]) hx hb hl0 hown (by decide) (by decide) (hts _ kw_104) (hts _ kw_6) hsa (xc_atoms hB hts at_iae) (by rw [hml]; exact hl.1) (Nat.le_refl _) d_B_party_89 d_B_party_92 d_B_party_93 d_B_party_95 d_B_party_98 (hout _) (Nat.le_of_ble_eq_true rfl) (Nat.le_of_ble_eq_true rfl) (Nat.le_of_ble_eq_true rfl) (Nat.le_of_ble_eq_true rfl) hlocks (Nat.le_of_ble_eq_true rfl) (Nat.le_of_ble_eq_true rfl)
  · exact absurd c1 (by decide)
end
section
set_option maxHeartbeats 4000000 in
set_option maxRecDepth 100000 in
theorem c_enter_y (l : Launch) (dC : Nat → ClassId) (dI : Nat → Nat → Nat) (ad : Nat → Nat) (cI cJ : ClassId) (n tc : Nat) (ki ra : Nat → Int32) (po se : Nat → Int64) (bc : Nat → Int32) (bs op : Nat → Int64) (pr pe : Nat → Int32) (pm : Nat → Int64) (sz : Nat) (k : Int32) (r : Nat) (hr0 : r ≤ 1000) (hn : n < 15) : Met l y_B_enter (.code y_B_enter b_B_enter 4 (some .int) :: wAll) ({ frames := 0, cells := 0, slots := 0, locals := 0 } : Room) (mu_P [.ref (ad 0), .int k, .int (nI r)] (dC, dI) vwCl [(cI, .int), (cJ, .long)] (cb_w ad cI cJ n tc ki ra po se bc bs op pr pe pm) sz) (va_Qi (fun (z : Int32) (_ : Unit) => z = nI n) (mu_B (dC, dI) vwCl [(cI, .int), (cJ, .long)] (va_A (cb_w ad cI cJ n tc ki ra po se bc bs op pr pe pm) sz) (cb_w ad cI cJ (n + 1) tc (upd ki n k) (upd ra n (nI r)) po se bc bs op pr pe pm)) (va_A (cb_w ad cI cJ n tc ki ra po se bc bs op pr pe pm) sz)) 0 0 (va_A (cb_w ad cI cJ n tc ki ra po se bc bs op pr pe pm) sz) := by
  refine Met.ofW (cc := b_B_enter) (maxL := 4) (ret := (some .int)) (by decide) rfl ?_
  intro p e s m args below meth c s₁ B hml hv
  obtain ⟨rfl, hsz, hP, hK, hD0⟩ := hv
  have hx := B.exec
  have hb := B.bytes
  have hr := B.returns
  have hts0 := atoms_spec (ws := (.code y_B_enter b_B_enter 4 (some .int) :: wAll)) B.pre
  have hts := hts_all hts0
  have hown : s.vm.findClass "ClearingBooks" = some m.cls := findClass_of_methodNamed B.named
  have hlocks := B.notSynchronized
  subst hsz
  have hD := hD0.self (sz := s.heap.size)
  generalize hAe : va_A (cb_w ad cI cJ n tc ki ra po se bc bs op pr pe pm) s.heap.size = A at hD ⊢
  have hA : ∀ q : Nat, s.heap.size ≤ q → A q := fun q h => by rw [← hAe]; exact Or.inr h
  have hS : va_S A s.heap s.heap [] := va_S.rf
  have hl := lv_entry ([.ref (ad 0), .int k, .int (nI r)]) (n := 4) (Nat.le_of_ble_eq_true rfl)
  rw [lg_entry_eq]
  generalize (lg_sl ([.ref (ad 0), .int k, .int (nI r)]) ++ List.replicate (4 - (lg_sl ([.ref (ad 0), .int k, .int (nI r)])).length) Slot.unset).toArray = ls at hl ⊢
  have hl : lv_has ls 4 [(0, .ref (ad 0)), (1, .int k), (2, .int (nI r))] := hl
  refine lv_iload_n hx hb d_B_enter_0 rfl (lv_at hl 2 rfl) ?_
  refine lv_if_lt (tgt := 11) hx hb d_B_enter_1 (by decide) (fun c1 => ?_) (fun c1 => ?_)
  · exact absurd c1 (nI_pos (by omega))
  · refine lv_iload_n hx hb d_B_enter_4 rfl (lv_at hl 2 rfl) ?_
    refine lv_sipush (v := nI 1000) hx hb d_B_enter_5 (by decide) ?_
    refine lv_icmp_le (tgt := 21) hx hb d_B_enter_8 (by decide) (fun c2 => ?_) (fun c2 => ?_)
    · replace c2 := (nI_leI (by omega) (by omega)).mp c2
      refine lv_aload_n hx hb d_B_enter_21 rfl (lv_at hl 0 rfl) ?_
      refine va_get (D := (dC, dI)) (ci := 0) (v := .int (nI n)) (C := "ClearingBooks") (T := T_B) (N := 12) hx hb hts wi_B hown hK hP 0 rfl rfl 0 (by decide) (hts _ kw_17) (fun _ h9 => h9) rfl d_B_enter_22 ?_
      refine lv_bipush (v := nI 15) hx hb d_B_enter_25 (by decide) ?_
      refine lv_icmp_lt (tgt := 40) hx hb d_B_enter_27 (by decide) (fun c3 => ?_) (fun c3 => ?_)
      · replace c3 := (nI_ltI (by omega) (by omega)).mp c3
        refine lv_aload_n hx hb d_B_enter_40 rfl (lv_at hl 0 rfl) ?_
        refine va_get (D := (dC, dI)) (ci := 0) (v := .int (nI n)) (C := "ClearingBooks") (T := T_B) (N := 12) hx hb hts wi_B hown hK hP 0 rfl rfl 0 (by decide) (hts _ kw_17) (fun _ h9 => h9) rfl d_B_enter_41 ?_
        refine lv_istore_n (lv' := [(3, .int (nI n)), (0, .ref (ad 0)), (1, .int k), (2, .int (nI r))]) hx hb d_B_enter_44 rfl hl (by decide) rfl (fun ls hl => ?_)
        refine lv_aload_n hx hb d_B_enter_45 rfl (lv_at hl 1 rfl) ?_
        refine va_get (D := (dC, dI)) (ci := 0) (v := .ref (ad 1)) (C := "ClearingBooks") (T := T_B) (N := 12) hx hb hts wi_B hown hK hP 0 rfl rfl 1 (by decide) (hts _ kw_18) (fun _ h9 => h9) rfl d_B_enter_46 ?_
        refine lv_iload_n hx hb d_B_enter_49 rfl (lv_at hl 0 rfl) ?_
        refine lv_iload_n hx hb d_B_enter_50 rfl (lv_at hl 2 rfl) ?_
        refine xa_iastore (f := ki) (x := k) hx hb hK hP hD hS 1 0 rfl rfl (j := n) (by omega) (by decide) d_B_enter_51 (fun H locs hP hD hS => ?_)
        have hP : va_P (dC, dI) vwCl (cb_w ad cI cJ n tc (upd ki n k) ra po se bc bs op pr pe pm) H := hP
        have hD : va_D A (cb_w ad cI cJ n tc (upd ki n k) ra po se bc bs op pr pe pm) := hD
        refine lv_aload_n hx hb d_B_enter_52 rfl (lv_at hl 1 rfl) ?_
        refine va_get (D := (dC, dI)) (ci := 0) (v := .ref (ad 2)) (C := "ClearingBooks") (T := T_B) (N := 12) hx hb hts wi_B hown hK hP 0 rfl rfl 2 (by decide) (hts _ kw_19) (fun _ h9 => h9) rfl d_B_enter_53 ?_
        refine lv_iload_n hx hb d_B_enter_56 rfl (lv_at hl 0 rfl) ?_
        refine lv_iload_n hx hb d_B_enter_57 rfl (lv_at hl 3 rfl) ?_
        refine xa_iastore (f := ra) (x := nI r) hx hb hK hP hD hS 2 0 rfl rfl (j := n) (by omega) (by decide) d_B_enter_58 (fun H locs hP hD hS => ?_)
        have hP : va_P (dC, dI) vwCl (cb_w ad cI cJ n tc (upd ki n k) (upd ra n (nI r)) po se bc bs op pr pe pm) H := hP
        have hD : va_D A (cb_w ad cI cJ n tc (upd ki n k) (upd ra n (nI r)) po se bc bs op pr pe pm) := hD
        refine lv_aload_n hx hb d_B_enter_59 rfl (lv_at hl 1 rfl) ?_
        refine lv_dup hx hb d_B_enter_60 rfl ?_
        refine va_get (D := (dC, dI)) (ci := 0) (v := .int (nI n)) (C := "ClearingBooks") (T := T_B) (N := 12) hx hb hts wi_B hown hK hP 0 rfl rfl 0 (by decide) (hts _ kw_17) (fun _ h9 => h9) rfl d_B_enter_61 ?_
        refine lv_iconst (v := nI 1) hx hb d_B_enter_64 (by decide) ?_
        refine t_iadd hx hb d_B_enter_65 (v := nI (n + 1)) (nI_add n 1) ?_
        refine va_put (D := (dC, dI)) (ci := 0) (v := .int (nI (n + 1))) (ty := .int) (C := "ClearingBooks") (T := T_B) (N := 12) hx hb hts wi_B ty_B tyok_B nm_B hown hK hP hD hS 0 rfl rfl 0 (by decide) (hts _ kw_17) (fun _ h9 => h9) rfl (by decide +kernel) rfl rfl (Nat.le_of_ble_eq_true rfl) d_B_enter_66 (fun H locs hP hD hS => ?_)
        have hP : va_P (dC, dI) vwCl (cb_w ad cI cJ (n + 1) tc (upd ki n k) (upd ra n (nI r)) po se bc bs op pr pe pm) H := hP
        have hD : va_D A (cb_w ad cI cJ (n + 1) tc (upd ki n k) (upd ra n (nI r)) po se bc bs op pr pe pm) := hD
        refine lv_iload_n hx hb d_B_enter_69 rfl (lv_at hl 0 rfl) ?_
        exact W.iret (v := nI n) hx hb hr (fun t ht hW => ⟨⟨nI n, (), rfl, rfl, by rw [ht]; exact hP, va_K.moved hW.alike hK, hD⟩, hS.F ht⟩) hS.2.2 d_B_enter_70
      · replace c3 := mt (nI_ltI (by omega) (by omega)).mpr c3
        exact absurd hn c3
    · replace c2 := mt (nI_leI (by omega) (by omega)).mpr c2
      exact absurd hr0 c2
set_option maxHeartbeats 4000000 in
set_option maxRecDepth 100000 in
theorem c_enter_ta (l : Launch) (dC : Nat → ClassId) (dI : Nat → Nat → Nat) (ad : Nat → Nat) (cI cJ : ClassId) (n tc : Nat) (ki ra : Nat → Int32) (po se : Nat → Int64) (bc : Nat → Int32) (bs op : Nat → Int64) (pr pe : Nat → Int32) (pm : Nat → Int64) (k x : Int32) (hno : ¬ (¬ x < 0 ∧ x ≤ nI 1000)) (hl0 : l.stackTraces = false) : xt_Met l y_B_enter (.code y_B_enter b_B_enter 4 (some .int) :: wAll) ({ frames := 6, cells := 1, slots := 6, locals := 90 } : Room) (ro_P [.ref (ad 0), .int k, .int x] (dC, dI) vwCl [(cI, .int), (cJ, .long)] (cb_w ad cI cJ n tc ki ra po se bc bs op pr pe pm) (xc_ok "ClearingBooks" cb_ks)) "java/lang/IllegalArgumentException" 1 6 := by
  refine xt_ofW (cc := b_B_enter) (maxL := 4) (ret := (some .int)) (by decide) rfl ?_
  intro p e s m args below meth c s₁ B hml hv
  obtain ⟨rfl, hP, hK, hB⟩ := hv
  have hx := B.exec
  have hb := B.bytes
  have hr := B.returns
  have hts0 := atoms_spec (ws := (.code y_B_enter b_B_enter 4 (some .int) :: wAll)) B.pre
  have hts := hts_all hts0
  have hown : s.vm.findClass "ClearingBooks" = some m.cls := findClass_of_methodNamed B.named
  have hlocks := B.notSynchronized
  have hnh := B.noHandlers (hts0 _ List.mem_cons_self)
  have hout : ∀ pc9 : Nat, ∀ x ∈ c.exceptionTable.toList, covers x pc9 = false := fun pc9 x hx9 => by rw [xt_nil hnh] at hx9; cases hx9
  have hl := lv_entry ([.ref (ad 0), .int k, .int x]) (n := 4) (Nat.le_of_ble_eq_true rfl)
  rw [lg_entry_eq]
  generalize (lg_sl ([.ref (ad 0), .int k, .int x]) ++ List.replicate (4 - (lg_sl ([.ref (ad 0), .int k, .int x])).length) Slot.unset).toArray = ls at hl ⊢
  have hl : lv_has ls 4 [(0, .ref (ad 0)), (1, .int k), (2, .int x)] := hl
  refine lv_iload_n hx hb d_B_enter_0 rfl (lv_at hl 2 rfl) ?_
  refine lv_if_lt (tgt := 11) hx hb d_B_enter_1 (by decide) (fun c1 => ?_) (fun c1 => ?_)
  · obtain ⟨sa, hsa⟩ := hB.2.1 _ (List.mem_of_getElem? (l := cb_ks) (i := 0) rfl)
    exact xt_throw (names := ["java/lang/RuntimeException", "java/lang/Exception"]) hx hb hl0 hown (by decide) (by decide) (hts _ kw_104) (hts _ kw_6) hsa (xc_atoms hB hts at_iae) (by rw [hml]; exact hl.1) (Nat.le_refl _) d_B_enter_11 d_B_enter_14 d_B_enter_15 d_B_enter_17 d_B_enter_20 (hout _) (Nat.le_of_ble_eq_true rfl) (Nat.le_of_ble_eq_true rfl) (Nat.le_of_ble_eq_true rfl) (Nat.le_of_ble_eq_true rfl) hlocks (Nat.le_of_ble_eq_true rfl) (Nat.le_of_ble_eq_true rfl)
  · refine lv_iload_n hx hb d_B_enter_4 rfl (lv_at hl 2 rfl) ?_
    refine lv_sipush (v := nI 1000) hx hb d_B_enter_5 (by decide) ?_
    refine lv_icmp_le (tgt := 21) hx hb d_B_enter_8 (by decide) (fun c2 => ?_) (fun c2 => ?_)
    · exact absurd ⟨c1, c2⟩ hno
    · obtain ⟨sa, hsa⟩ := hB.2.1 _ (List.mem_of_getElem? (l := cb_ks) (i := 0) rfl)
      exact xt_throw (names := ["java/lang/RuntimeException", "java/lang/Exception"]) hx hb hl0 hown (by decide) (by decide) (hts _ kw_104) (hts _ kw_6) hsa (xc_atoms hB hts at_iae) (by rw [hml]; exact hl.1) (Nat.le_refl _) d_B_enter_11 d_B_enter_14 d_B_enter_15 d_B_enter_17 d_B_enter_20 (hout _) (Nat.le_of_ble_eq_true rfl) (Nat.le_of_ble_eq_true rfl) (Nat.le_of_ble_eq_true rfl) (Nat.le_of_ble_eq_true rfl) hlocks (Nat.le_of_ble_eq_true rfl) (Nat.le_of_ble_eq_true rfl)
set_option maxHeartbeats 4000000 in
set_option maxRecDepth 100000 in
theorem c_enter_ts (l : Launch) (dC : Nat → ClassId) (dI : Nat → Nat → Nat) (ad : Nat → Nat) (cI cJ : ClassId) (n tc : Nat) (ki ra : Nat → Int32) (po se : Nat → Int64) (bc : Nat → Int32) (bs op : Nat → Int64) (pr pe : Nat → Int32) (pm : Nat → Int64) (k : Int32) (r : Nat) (hr0 : r ≤ 1000) (hn : n = 15) (hl0 : l.stackTraces = false) : xt_Met l y_B_enter (.code y_B_enter b_B_enter 4 (some .int) :: wAll) ({ frames := 6, cells := 1, slots := 6, locals := 90 } : Room) (ro_P [.ref (ad 0), .int k, .int (nI r)] (dC, dI) vwCl [(cI, .int), (cJ, .long)] (cb_w ad cI cJ n tc ki ra po se bc bs op pr pe pm) (xc_ok "ClearingBooks" cb_ks)) "java/lang/IllegalStateException" 1 6 := by
  refine xt_ofW (cc := b_B_enter) (maxL := 4) (ret := (some .int)) (by decide) rfl ?_
  intro p e s m args below meth c s₁ B hml hv
  obtain ⟨rfl, hP, hK, hB⟩ := hv
  have hx := B.exec
  have hb := B.bytes
  have hr := B.returns
  have hts0 := atoms_spec (ws := (.code y_B_enter b_B_enter 4 (some .int) :: wAll)) B.pre
  have hts := hts_all hts0
  have hown : s.vm.findClass "ClearingBooks" = some m.cls := findClass_of_methodNamed B.named
  have hlocks := B.notSynchronized
  have hnh := B.noHandlers (hts0 _ List.mem_cons_self)
  have hout : ∀ pc9 : Nat, ∀ x ∈ c.exceptionTable.toList, covers x pc9 = false := fun pc9 x hx9 => by rw [xt_nil hnh] at hx9; cases hx9
  have hl := lv_entry ([.ref (ad 0), .int k, .int (nI r)]) (n := 4) (Nat.le_of_ble_eq_true rfl)
  rw [lg_entry_eq]
  generalize (lg_sl ([.ref (ad 0), .int k, .int (nI r)]) ++ List.replicate (4 - (lg_sl ([.ref (ad 0), .int k, .int (nI r)])).length) Slot.unset).toArray = ls at hl ⊢
  have hl : lv_has ls 4 [(0, .ref (ad 0)), (1, .int k), (2, .int (nI r))] := hl
  refine lv_iload_n hx hb d_B_enter_0 rfl (lv_at hl 2 rfl) ?_
  refine lv_if_lt (tgt := 11) hx hb d_B_enter_1 (by decide) (fun c1 => ?_) (fun c1 => ?_)
  · exact absurd c1 (nI_pos (by omega))
  · refine lv_iload_n hx hb d_B_enter_4 rfl (lv_at hl 2 rfl) ?_
    refine lv_sipush (v := nI 1000) hx hb d_B_enter_5 (by decide) ?_
    refine lv_icmp_le (tgt := 21) hx hb d_B_enter_8 (by decide) (fun c2 => ?_) (fun c2 => ?_)
    · replace c2 := (nI_leI (by omega) (by omega)).mp c2
      refine lv_aload_n hx hb d_B_enter_21 rfl (lv_at hl 0 rfl) ?_
      refine va_get (D := (dC, dI)) (ci := 0) (v := .int (nI n)) (C := "ClearingBooks") (T := T_B) (N := 12) hx hb hts wi_B hown hK hP 0 rfl rfl 0 (by decide) (hts _ kw_17) (fun _ h9 => h9) rfl d_B_enter_22 ?_
      refine lv_bipush (v := nI 15) hx hb d_B_enter_25 (by decide) ?_
      refine lv_icmp_lt (tgt := 40) hx hb d_B_enter_27 (by decide) (fun c3 => ?_) (fun c3 => ?_)
      · replace c3 := (nI_ltI (by omega) (by omega)).mp c3
        exfalso; omega
      · replace c3 := mt (nI_ltI (by omega) (by omega)).mpr c3
        obtain ⟨sa, hsa⟩ := hB.2.1 _ (List.mem_of_getElem? (l := cb_ks) (i := 1) rfl)
        exact xt_throw (names := ["java/lang/RuntimeException", "java/lang/Exception"]) hx hb hl0 hown (by decide) (by decide) (hts _ kw_171) (hts _ kw_7) hsa (xc_atoms hB hts at_ise) (by rw [hml]; exact hl.1) (Nat.le_refl _) d_B_enter_30 d_B_enter_33 d_B_enter_34 d_B_enter_36 d_B_enter_39 (hout _) (Nat.le_of_ble_eq_true rfl) (Nat.le_of_ble_eq_true rfl) (Nat.le_of_ble_eq_true rfl) (Nat.le_of_ble_eq_true rfl) hlocks (Nat.le_of_ble_eq_true rfl) (Nat.le_of_ble_eq_true rfl)
    · replace c2 := mt (nI_leI (by omega) (by omega)).mpr c2
      exact absurd hr0 c2
set_option maxHeartbeats 4000000 in
set_option maxRecDepth 100000 in
theorem c_acquirer_y (l : Launch) (dC : Nat → ClassId) (dI : Nat → Nat → Nat) (ad : Nat → Nat) (cI cJ : ClassId) (n tc : Nat) (ki ra : Nat → Int32) (po se : Nat → Int64) (bc : Nat → Int32) (bs op : Nat → Int64) (pr pe : Nat → Int32) (pm : Nat → Int64) (sz : Nat) (r : Nat) (hr0 : r ≤ 1000) (hn : n < 15) : Met l y_B_acquirer (.code y_B_acquirer b_B_acquirer 2 (some .int) :: wAll) ({ frames := 1, cells := 0, slots := 0, locals := 23 } : Room) (mu_P [.ref (ad 0), .int (nI r)] (dC, dI) vwCl [(cI, .int), (cJ, .long)] (cb_w ad cI cJ n tc ki ra po se bc bs op pr pe pm) sz) (va_Qi (fun (z : Int32) (_ : Unit) => z = nI n) (mu_B (dC, dI) vwCl [(cI, .int), (cJ, .long)] (va_A (cb_w ad cI cJ n tc ki ra po se bc bs op pr pe pm) sz) (cb_w ad cI cJ (n + 1) tc (upd ki n (nI 1)) (upd ra n (nI r)) po se bc bs op pr pe pm)) (va_A (cb_w ad cI cJ n tc ki ra po se bc bs op pr pe pm) sz)) 0 0 (va_A (cb_w ad cI cJ n tc ki ra po se bc bs op pr pe pm) sz) := by
  refine Met.ofW (cc := b_B_acquirer) (maxL := 2) (ret := (some .int)) (by decide) rfl ?_
  intro p e s m args below meth c s₁ B hml hv
  obtain ⟨rfl, hsz, hP, hK, hD0⟩ := hv
  have hx := B.exec
  have hb := B.bytes
  have hr := B.returns
  have hts0 := atoms_spec (ws := (.code y_B_acquirer b_B_acquirer 2 (some .int) :: wAll)) B.pre
  have hts := hts_all hts0
  have hown : s.vm.findClass "ClearingBooks" = some m.cls := findClass_of_methodNamed B.named
  have hlocks := B.notSynchronized
  subst hsz
  have hD := hD0.self (sz := s.heap.size)
  generalize hAe : va_A (cb_w ad cI cJ n tc ki ra po se bc bs op pr pe pm) s.heap.size = A at hD ⊢
  have hA : ∀ q : Nat, s.heap.size ≤ q → A q := fun q h => by rw [← hAe]; exact Or.inr h
  have hS : va_S A s.heap s.heap [] := va_S.rf
  have hl := lv_entry ([.ref (ad 0), .int (nI r)]) (n := 2) (Nat.le_of_ble_eq_true rfl)
  rw [lg_entry_eq]
  generalize (lg_sl ([.ref (ad 0), .int (nI r)]) ++ List.replicate (2 - (lg_sl ([.ref (ad 0), .int (nI r)])).length) Slot.unset).toArray = ls at hl ⊢
  have hl : lv_has ls 2 [(0, .ref (ad 0)), (1, .int (nI r))] := hl
  refine lv_aload_n hx hb d_B_acquirer_0 rfl (lv_at hl 0 rfl) ?_
  refine lv_iconst (v := nI 1) hx hb d_B_acquirer_1 (by decide) ?_
  refine lv_iload_n hx hb d_B_acquirer_2 rfl (lv_at hl 1 rfl) ?_
  refine mu_calli (va_runV (As := [.int (nI 1), .int (nI r)]) (rest := []) ⟨hx, hb, hml, hown, hts⟩ (c_enter_y l dC dI ad cI cJ n tc ki ra po se bc bs op pr pe pm _ (nI 1) r hr0 hn) (cwV 2 hts (wAll_v kw_100 kw_102 ks_5 kw_1 kw_103) rfl rfl rfl (by decide +kernel) ⟨Nat.le_of_ble_eq_true rfl, Nat.le_of_ble_eq_true rfl⟩) (mu_preV hK hP hD (ci := 0) (q0 := 0) rfl rfl) rfl rfl hl.1 rfl (lv_room (Nat.le_of_ble_eq_true rfl)) d_B_acquirer_3 ⟨Nat.le_of_ble_eq_true rfl, Nat.le_of_ble_eq_true rfl⟩) hD hS hA (fun r H locs hq hP hD hS => ?_)
  obtain rfl := hq
  have hP : va_P (dC, dI) vwCl (cb_w ad cI cJ (n + 1) tc (upd ki n (nI 1)) (upd ra n (nI r)) po se bc bs op pr pe pm) H := hP
  have hD : va_D A (cb_w ad cI cJ (n + 1) tc (upd ki n (nI 1)) (upd ra n (nI r)) po se bc bs op pr pe pm) := hD
  exact W.iret (v := nI n) hx hb hr (fun t ht hW => ⟨⟨nI n, (), rfl, rfl, by rw [ht]; exact hP, va_K.moved hW.alike hK, hD⟩, hS.F ht⟩) hS.2.2 d_B_acquirer_6
set_option maxHeartbeats 4000000 in
set_option maxRecDepth 100000 in
theorem c_acquirer_ta (l : Launch) (dC : Nat → ClassId) (dI : Nat → Nat → Nat) (ad : Nat → Nat) (cI cJ : ClassId) (n tc : Nat) (ki ra : Nat → Int32) (po se : Nat → Int64) (bc : Nat → Int32) (bs op : Nat → Int64) (pr pe : Nat → Int32) (pm : Nat → Int64) (x : Int32) (hno : ¬ (¬ x < 0 ∧ x ≤ nI 1000)) (hl0 : l.stackTraces = false) : xt_Met l y_B_acquirer (.code y_B_acquirer b_B_acquirer 2 (some .int) :: wAll) ({ frames := 7, cells := 1, slots := 6, locals := 113 } : Room) (ro_P [.ref (ad 0), .int x] (dC, dI) vwCl [(cI, .int), (cJ, .long)] (cb_w ad cI cJ n tc ki ra po se bc bs op pr pe pm) (xc_ok "ClearingBooks" cb_ks)) "java/lang/IllegalArgumentException" 1 6 := by
  refine xt_ofW (cc := b_B_acquirer) (maxL := 2) (ret := (some .int)) (by decide) rfl ?_
  intro p e s m args below meth c s₁ B hml hv
  obtain ⟨rfl, hP, hK, hB⟩ := hv
  have hx := B.exec
  have hb := B.bytes
  have hr := B.returns
  have hts0 := atoms_spec (ws := (.code y_B_acquirer b_B_acquirer 2 (some .int) :: wAll)) B.pre
  have hts := hts_all hts0
  have hown : s.vm.findClass "ClearingBooks" = some m.cls := findClass_of_methodNamed B.named
  have hlocks := B.notSynchronized
  have hnh := B.noHandlers (hts0 _ List.mem_cons_self)
  have hout : ∀ pc9 : Nat, ∀ x ∈ c.exceptionTable.toList, covers x pc9 = false := fun pc9 x hx9 => by rw [xt_nil hnh] at hx9; cases hx9
  have hl := lv_entry ([.ref (ad 0), .int x]) (n := 2) (Nat.le_of_ble_eq_true rfl)
  rw [lg_entry_eq]
  generalize (lg_sl ([.ref (ad 0), .int x]) ++ List.replicate (2 - (lg_sl ([.ref (ad 0), .int x])).length) Slot.unset).toArray = ls at hl ⊢
  have hl : lv_has ls 2 [(0, .ref (ad 0)), (1, .int x)] := hl
  refine lv_aload_n hx hb d_B_acquirer_0 rfl (lv_at hl 0 rfl) ?_
  refine lv_iconst (v := nI 1) hx hb d_B_acquirer_1 (by decide) ?_
  refine lv_iload_n hx hb d_B_acquirer_2 rfl (lv_at hl 1 rfl) ?_
  exact xt_pass (xt_runV (As := [.int (nI 1), .int x]) (rest := []) ⟨hx, hb, hml, hown, hts⟩ (c_enter_ta l dC dI ad cI cJ n tc ki ra po se bc bs op pr pe pm (nI 1) x hno hl0) (cwV 2 hts (wAll_v kw_100 kw_102 ks_5 kw_1 kw_103) rfl rfl rfl (by decide +kernel) ⟨Nat.le_of_ble_eq_true rfl, Nat.le_of_ble_eq_true rfl⟩) (ro_preV bl_xc hK hP (ci := 0) (q0 := 0) rfl rfl (fun U hU hW => xc_moved hB hW (fun q _ => by rw [hU]))) rfl rfl hl.1 rfl (lv_room (Nat.le_of_ble_eq_true rfl)) d_B_acquirer_3 ⟨Nat.le_of_ble_eq_true rfl, Nat.le_of_ble_eq_true rfl⟩) (hout _) hlocks (Nat.le_of_ble_eq_true rfl) (Nat.le_of_ble_eq_true rfl)
set_option maxHeartbeats 4000000 in
set_option maxRecDepth 100000 in
theorem c_acquirer_ts (l : Launch) (dC : Nat → ClassId) (dI : Nat → Nat → Nat) (ad : Nat → Nat) (cI cJ : ClassId) (n tc : Nat) (ki ra : Nat → Int32) (po se : Nat → Int64) (bc : Nat → Int32) (bs op : Nat → Int64) (pr pe : Nat → Int32) (pm : Nat → Int64) (r : Nat) (hr0 : r ≤ 1000) (hn : n = 15) (hl0 : l.stackTraces = false) : xt_Met l y_B_acquirer (.code y_B_acquirer b_B_acquirer 2 (some .int) :: wAll) ({ frames := 7, cells := 1, slots := 6, locals := 113 } : Room) (ro_P [.ref (ad 0), .int (nI r)] (dC, dI) vwCl [(cI, .int), (cJ, .long)] (cb_w ad cI cJ n tc ki ra po se bc bs op pr pe pm) (xc_ok "ClearingBooks" cb_ks)) "java/lang/IllegalStateException" 1 6 := by
  refine xt_ofW (cc := b_B_acquirer) (maxL := 2) (ret := (some .int)) (by decide) rfl ?_
  intro p e s m args below meth c s₁ B hml hv
  obtain ⟨rfl, hP, hK, hB⟩ := hv
  have hx := B.exec
  have hb := B.bytes
  have hr := B.returns
  have hts0 := atoms_spec (ws := (.code y_B_acquirer b_B_acquirer 2 (some .int) :: wAll)) B.pre
  have hts := hts_all hts0
  have hown : s.vm.findClass "ClearingBooks" = some m.cls := findClass_of_methodNamed B.named
  have hlocks := B.notSynchronized
  have hnh := B.noHandlers (hts0 _ List.mem_cons_self)
  have hout : ∀ pc9 : Nat, ∀ x ∈ c.exceptionTable.toList, covers x pc9 = false := fun pc9 x hx9 => by rw [xt_nil hnh] at hx9; cases hx9
  have hl := lv_entry ([.ref (ad 0), .int (nI r)]) (n := 2) (Nat.le_of_ble_eq_true rfl)
  rw [lg_entry_eq]
  generalize (lg_sl ([.ref (ad 0), .int (nI r)]) ++ List.replicate (2 - (lg_sl ([.ref (ad 0), .int (nI r)])).length) Slot.unset).toArray = ls at hl ⊢
  have hl : lv_has ls 2 [(0, .ref (ad 0)), (1, .int (nI r))] := hl
  refine lv_aload_n hx hb d_B_acquirer_0 rfl (lv_at hl 0 rfl) ?_
  refine lv_iconst (v := nI 1) hx hb d_B_acquirer_1 (by decide) ?_
  refine lv_iload_n hx hb d_B_acquirer_2 rfl (lv_at hl 1 rfl) ?_
  exact xt_pass (xt_runV (As := [.int (nI 1), .int (nI r)]) (rest := []) ⟨hx, hb, hml, hown, hts⟩ (c_enter_ts l dC dI ad cI cJ n tc ki ra po se bc bs op pr pe pm (nI 1) r hr0 hn hl0) (cwV 2 hts (wAll_v kw_100 kw_102 ks_5 kw_1 kw_103) rfl rfl rfl (by decide +kernel) ⟨Nat.le_of_ble_eq_true rfl, Nat.le_of_ble_eq_true rfl⟩) (ro_preV bl_xc hK hP (ci := 0) (q0 := 0) rfl rfl (fun U hU hW => xc_moved hB hW (fun q _ => by rw [hU]))) rfl rfl hl.1 rfl (lv_room (Nat.le_of_ble_eq_true rfl)) d_B_acquirer_3 ⟨Nat.le_of_ble_eq_true rfl, Nat.le_of_ble_eq_true rfl⟩) (hout _) hlocks (Nat.le_of_ble_eq_true rfl) (Nat.le_of_ble_eq_true rfl)
set_option maxHeartbeats 4000000 in
set_option maxRecDepth 100000 in
theorem c_issuer_y (l : Launch) (dC : Nat → ClassId) (dI : Nat → Nat → Nat) (ad : Nat → Nat) (cI cJ : ClassId) (n tc : Nat) (ki ra : Nat → Int32) (po se : Nat → Int64) (bc : Nat → Int32) (bs op : Nat → Int64) (pr pe : Nat → Int32) (pm : Nat → Int64) (sz : Nat) (r : Nat) (hr0 : r ≤ 1000) (hn : n < 15) : Met l y_B_issuer (.code y_B_issuer b_B_issuer 2 (some .int) :: wAll) ({ frames := 1, cells := 0, slots := 0, locals := 23 } : Room) (mu_P [.ref (ad 0), .int (nI r)] (dC, dI) vwCl [(cI, .int), (cJ, .long)] (cb_w ad cI cJ n tc ki ra po se bc bs op pr pe pm) sz) (va_Qi (fun (z : Int32) (_ : Unit) => z = nI n) (mu_B (dC, dI) vwCl [(cI, .int), (cJ, .long)] (va_A (cb_w ad cI cJ n tc ki ra po se bc bs op pr pe pm) sz) (cb_w ad cI cJ (n + 1) tc (upd ki n (nI 2)) (upd ra n (nI r)) po se bc bs op pr pe pm)) (va_A (cb_w ad cI cJ n tc ki ra po se bc bs op pr pe pm) sz)) 0 0 (va_A (cb_w ad cI cJ n tc ki ra po se bc bs op pr pe pm) sz) := by
  refine Met.ofW (cc := b_B_issuer) (maxL := 2) (ret := (some .int)) (by decide) rfl ?_
  intro p e s m args below meth c s₁ B hml hv
  obtain ⟨rfl, hsz, hP, hK, hD0⟩ := hv
  have hx := B.exec
  have hb := B.bytes
  have hr := B.returns
  have hts0 := atoms_spec (ws := (.code y_B_issuer b_B_issuer 2 (some .int) :: wAll)) B.pre
  have hts := hts_all hts0
  have hown : s.vm.findClass "ClearingBooks" = some m.cls := findClass_of_methodNamed B.named
  have hlocks := B.notSynchronized
  subst hsz
  have hD := hD0.self (sz := s.heap.size)
  generalize hAe : va_A (cb_w ad cI cJ n tc ki ra po se bc bs op pr pe pm) s.heap.size = A at hD ⊢
  have hA : ∀ q : Nat, s.heap.size ≤ q → A q := fun q h => by rw [← hAe]; exact Or.inr h
  have hS : va_S A s.heap s.heap [] := va_S.rf
  have hl := lv_entry ([.ref (ad 0), .int (nI r)]) (n := 2) (Nat.le_of_ble_eq_true rfl)
  rw [lg_entry_eq]
  generalize (lg_sl ([.ref (ad 0), .int (nI r)]) ++ List.replicate (2 - (lg_sl ([.ref (ad 0), .int (nI r)])).length) Slot.unset).toArray = ls at hl ⊢
  have hl : lv_has ls 2 [(0, .ref (ad 0)), (1, .int (nI r))] := hl
  refine lv_aload_n hx hb d_B_issuer_0 rfl (lv_at hl 0 rfl) ?_
  refine lv_iconst (v := nI 2) hx hb d_B_issuer_1 (by decide) ?_
  refine lv_iload_n hx hb d_B_issuer_2 rfl (lv_at hl 1 rfl) ?_
  refine mu_calli (va_runV (As := [.int (nI 2), .int (nI r)]) (rest := []) ⟨hx, hb, hml, hown, hts⟩ (c_enter_y l dC dI ad cI cJ n tc ki ra po se bc bs op pr pe pm _ (nI 2) r hr0 hn) (cwV 2 hts (wAll_v kw_100 kw_102 ks_5 kw_1 kw_103) rfl rfl rfl (by decide +kernel) ⟨Nat.le_of_ble_eq_true rfl, Nat.le_of_ble_eq_true rfl⟩) (mu_preV hK hP hD (ci := 0) (q0 := 0) rfl rfl) rfl rfl hl.1 rfl (lv_room (Nat.le_of_ble_eq_true rfl)) d_B_issuer_3 ⟨Nat.le_of_ble_eq_true rfl, Nat.le_of_ble_eq_true rfl⟩) hD hS hA (fun r H locs hq hP hD hS => ?_)
  obtain rfl := hq
  have hP : va_P (dC, dI) vwCl (cb_w ad cI cJ (n + 1) tc (upd ki n (nI 2)) (upd ra n (nI r)) po se bc bs op pr pe pm) H := hP
  have hD : va_D A (cb_w ad cI cJ (n + 1) tc (upd ki n (nI 2)) (upd ra n (nI r)) po se bc bs op pr pe pm) := hD
  exact W.iret (v := nI n) hx hb hr (fun t ht hW => ⟨⟨nI n, (), rfl, rfl, by rw [ht]; exact hP, va_K.moved hW.alike hK, hD⟩, hS.F ht⟩) hS.2.2 d_B_issuer_6
set_option maxHeartbeats 4000000 in
set_option maxRecDepth 100000 in
theorem c_issuer_ta (l : Launch) (dC : Nat → ClassId) (dI : Nat → Nat → Nat) (ad : Nat → Nat) (cI cJ : ClassId) (n tc : Nat) (ki ra : Nat → Int32) (po se : Nat → Int64) (bc : Nat → Int32) (bs op : Nat → Int64) (pr pe : Nat → Int32) (pm : Nat → Int64) (x : Int32) (hno : ¬ (¬ x < 0 ∧ x ≤ nI 1000)) (hl0 : l.stackTraces = false) : xt_Met l y_B_issuer (.code y_B_issuer b_B_issuer 2 (some .int) :: wAll) ({ frames := 7, cells := 1, slots := 6, locals := 113 } : Room) (ro_P [.ref (ad 0), .int x] (dC, dI) vwCl [(cI, .int), (cJ, .long)] (cb_w ad cI cJ n tc ki ra po se bc bs op pr pe pm) (xc_ok "ClearingBooks" cb_ks)) "java/lang/IllegalArgumentException" 1 6 := by
  refine xt_ofW (cc := b_B_issuer) (maxL := 2) (ret := (some .int)) (by decide) rfl ?_
  intro p e s m args below meth c s₁ B hml hv
  obtain ⟨rfl, hP, hK, hB⟩ := hv
  have hx := B.exec
  have hb := B.bytes
  have hr := B.returns
  have hts0 := atoms_spec (ws := (.code y_B_issuer b_B_issuer 2 (some .int) :: wAll)) B.pre
  have hts := hts_all hts0
  have hown : s.vm.findClass "ClearingBooks" = some m.cls := findClass_of_methodNamed B.named
  have hlocks := B.notSynchronized
  have hnh := B.noHandlers (hts0 _ List.mem_cons_self)
  have hout : ∀ pc9 : Nat, ∀ x ∈ c.exceptionTable.toList, covers x pc9 = false := fun pc9 x hx9 => by rw [xt_nil hnh] at hx9; cases hx9
  have hl := lv_entry ([.ref (ad 0), .int x]) (n := 2) (Nat.le_of_ble_eq_true rfl)
  rw [lg_entry_eq]
  generalize (lg_sl ([.ref (ad 0), .int x]) ++ List.replicate (2 - (lg_sl ([.ref (ad 0), .int x])).length) Slot.unset).toArray = ls at hl ⊢
  have hl : lv_has ls 2 [(0, .ref (ad 0)), (1, .int x)] := hl
  refine lv_aload_n hx hb d_B_issuer_0 rfl (lv_at hl 0 rfl) ?_
  refine lv_iconst (v := nI 2) hx hb d_B_issuer_1 (by decide) ?_
  refine lv_iload_n hx hb d_B_issuer_2 rfl (lv_at hl 1 rfl) ?_
  exact xt_pass (xt_runV (As := [.int (nI 2), .int x]) (rest := []) ⟨hx, hb, hml, hown, hts⟩ (c_enter_ta l dC dI ad cI cJ n tc ki ra po se bc bs op pr pe pm (nI 2) x hno hl0) (cwV 2 hts (wAll_v kw_100 kw_102 ks_5 kw_1 kw_103) rfl rfl rfl (by decide +kernel) ⟨Nat.le_of_ble_eq_true rfl, Nat.le_of_ble_eq_true rfl⟩) (ro_preV bl_xc hK hP (ci := 0) (q0 := 0) rfl rfl (fun U hU hW => xc_moved hB hW (fun q _ => by rw [hU]))) rfl rfl hl.1 rfl (lv_room (Nat.le_of_ble_eq_true rfl)) d_B_issuer_3 ⟨Nat.le_of_ble_eq_true rfl, Nat.le_of_ble_eq_true rfl⟩) (hout _) hlocks (Nat.le_of_ble_eq_true rfl) (Nat.le_of_ble_eq_true rfl)
set_option maxHeartbeats 4000000 in
set_option maxRecDepth 100000 in
theorem c_issuer_ts (l : Launch) (dC : Nat → ClassId) (dI : Nat → Nat → Nat) (ad : Nat → Nat) (cI cJ : ClassId) (n tc : Nat) (ki ra : Nat → Int32) (po se : Nat → Int64) (bc : Nat → Int32) (bs op : Nat → Int64) (pr pe : Nat → Int32) (pm : Nat → Int64) (r : Nat) (hr0 : r ≤ 1000) (hn : n = 15) (hl0 : l.stackTraces = false) : xt_Met l y_B_issuer (.code y_B_issuer b_B_issuer 2 (some .int) :: wAll) ({ frames := 7, cells := 1, slots := 6, locals := 113 } : Room) (ro_P [.ref (ad 0), .int (nI r)] (dC, dI) vwCl [(cI, .int), (cJ, .long)] (cb_w ad cI cJ n tc ki ra po se bc bs op pr pe pm) (xc_ok "ClearingBooks" cb_ks)) "java/lang/IllegalStateException" 1 6 := by
  refine xt_ofW (cc := b_B_issuer) (maxL := 2) (ret := (some .int)) (by decide) rfl ?_
  intro p e s m args below meth c s₁ B hml hv
  obtain ⟨rfl, hP, hK, hB⟩ := hv
  have hx := B.exec
  have hb := B.bytes
  have hr := B.returns
  have hts0 := atoms_spec (ws := (.code y_B_issuer b_B_issuer 2 (some .int) :: wAll)) B.pre
  have hts := hts_all hts0
  have hown : s.vm.findClass "ClearingBooks" = some m.cls := findClass_of_methodNamed B.named
  have hlocks := B.notSynchronized
  have hnh := B.noHandlers (hts0 _ List.mem_cons_self)
  have hout : ∀ pc9 : Nat, ∀ x ∈ c.exceptionTable.toList, covers x pc9 = false := fun pc9 x hx9 => by rw [xt_nil hnh] at hx9; cases hx9
  have hl := lv_entry ([.ref (ad 0), .int (nI r)]) (n := 2) (Nat.le_of_ble_eq_true rfl)
  rw [lg_entry_eq]
  generalize (lg_sl ([.ref (ad 0), .int (nI r)]) ++ List.replicate (2 - (lg_sl ([.ref (ad 0), .int (nI r)])).length) Slot.unset).toArray = ls at hl ⊢
  have hl : lv_has ls 2 [(0, .ref (ad 0)), (1, .int (nI r))] := hl
  refine lv_aload_n hx hb d_B_issuer_0 rfl (lv_at hl 0 rfl) ?_
  refine lv_iconst (v := nI 2) hx hb d_B_issuer_1 (by decide) ?_
  refine lv_iload_n hx hb d_B_issuer_2 rfl (lv_at hl 1 rfl) ?_
  exact xt_pass (xt_runV (As := [.int (nI 2), .int (nI r)]) (rest := []) ⟨hx, hb, hml, hown, hts⟩ (c_enter_ts l dC dI ad cI cJ n tc ki ra po se bc bs op pr pe pm (nI 2) r hr0 hn hl0) (cwV 2 hts (wAll_v kw_100 kw_102 ks_5 kw_1 kw_103) rfl rfl rfl (by decide +kernel) ⟨Nat.le_of_ble_eq_true rfl, Nat.le_of_ble_eq_true rfl⟩) (ro_preV bl_xc hK hP (ci := 0) (q0 := 0) rfl rfl (fun U hU hW => xc_moved hB hW (fun q _ => by rw [hU]))) rfl rfl hl.1 rfl (lv_room (Nat.le_of_ble_eq_true rfl)) d_B_issuer_3 ⟨Nat.le_of_ble_eq_true rfl, Nat.le_of_ble_eq_true rfl⟩) (hout _) hlocks (Nat.le_of_ble_eq_true rfl) (Nat.le_of_ble_eq_true rfl)
set_option maxHeartbeats 4000000 in
set_option maxRecDepth 100000 in
theorem c_clear_y (l : Launch) (dC : Nat → ClassId) (dI : Nat → Nat → Nat) (ad : Nat → Nat) (cI cJ : ClassId) (n tc : Nat) (ki ra : Nat → Int32) (po se : Nat → Int64) (bc : Nat → Int32) (bs op : Nat → Int64) (pr pe : Nat → Int32) (pm : Nat → Int64) (sz : Nat) (i j : Nat) (x : Int64) (hji : i < n) (hjj : j < n) (hn : n ≤ 15) (hki : ki i = nI 1) (hkj : ki j = nI 2) (h1 : ¬ x < 1) (h2 : ¬ 1000000000000 < x) : Met l y_B_clear (.code y_B_clear b_B_clear 9 (some .long) :: wAll) ({ frames := 2, cells := 0, slots := 0, locals := 43 } : Room) (mu_P [.ref (ad 0), .int (nI i), .int (nI j), .long x] (dC, dI) vwCl [(cI, .int), (cJ, .long)] (cb_w ad cI cJ n tc ki ra po se bc bs op pr pe pm) sz) (va_Ql (fun (z : Int64) (_ : Unit) => z = cgv x (ra j + ra i)) (mu_B (dC, dI) vwCl [(cI, .int), (cJ, .long)] (va_A (cb_w ad cI cJ n tc ki ra po se bc bs op pr pe pm) sz) (cb_w ad cI cJ n tc ki ra (po_cl po i j x (cgv x (ra j + ra i)) (dnv x (ra j))) se (upd bc i (bc i + nI 1)) (vp_updL bs i (bs i + x)) op pr pe pm)) (va_A (cb_w ad cI cJ n tc ki ra po se bc bs op pr pe pm) sz)) 0 0 (va_A (cb_w ad cI cJ n tc ki ra po se bc bs op pr pe pm) sz) := by
  refine Met.ofW (cc := b_B_clear) (maxL := 9) (ret := (some .long)) (by decide) rfl ?_
  intro p e s m args below meth c s₁ B hml hv
  obtain ⟨rfl, hsz, hP, hK, hD0⟩ := hv
  have hx := B.exec
  have hb := B.bytes
  have hr := B.returns
  have hts0 := atoms_spec (ws := (.code y_B_clear b_B_clear 9 (some .long) :: wAll)) B.pre
  have hts := hts_all hts0
  have hown : s.vm.findClass "ClearingBooks" = some m.cls := findClass_of_methodNamed B.named
  have hlocks := B.notSynchronized
  subst hsz
  have hD := hD0.self (sz := s.heap.size)
  generalize hAe : va_A (cb_w ad cI cJ n tc ki ra po se bc bs op pr pe pm) s.heap.size = A at hD ⊢
  have hA : ∀ q : Nat, s.heap.size ≤ q → A q := fun q h => by rw [← hAe]; exact Or.inr h
  have hS : va_S A s.heap s.heap [] := va_S.rf
  have hl := lv_entry ([.ref (ad 0), .int (nI i), .int (nI j), .long x]) (n := 9) (Nat.le_of_ble_eq_true rfl)
  rw [lg_entry_eq]
  generalize (lg_sl ([.ref (ad 0), .int (nI i), .int (nI j), .long x]) ++ List.replicate (9 - (lg_sl ([.ref (ad 0), .int (nI i), .int (nI j), .long x])).length) Slot.unset).toArray = ls at hl ⊢
  have hl : lv_has ls 9 [(0, .ref (ad 0)), (1, .int (nI i)), (2, .int (nI j)), (3, .long x)] := hl
  refine lv_aload_n hx hb d_B_clear_0 rfl (lv_at hl 0 rfl) ?_
  refine lv_iload_n hx hb d_B_clear_1 rfl (lv_at hl 1 rfl) ?_
  refine lv_iconst (v := nI 1) hx hb d_B_clear_2 (by decide) ?_
  refine ro_call (va_runV (As := [.int (nI i), .int (nI 1)]) (rest := []) ⟨hx, hb, hml, hown, hts⟩ (c_requireKind_y l dC dI ad cI cJ n tc ki ra po se bc bs op pr pe pm i (nI 1) hji hn hki) (cwV 2 hts (wAll_v kw_201 kw_203 ks_7 kw_1 kw_204) rfl rfl rfl (by decide +kernel) ⟨Nat.le_of_ble_eq_true rfl, Nat.le_of_ble_eq_true rfl⟩) (ro_preV bl_tt hK hP (ci := 0) (q0 := 0) rfl rfl (fun _ _ _ => trivial)) rfl rfl hl.1 rfl (lv_room (Nat.le_of_ble_eq_true rfl)) d_B_clear_3 ⟨Nat.le_of_ble_eq_true rfl, Nat.le_of_ble_eq_true rfl⟩) ?_
  refine W.eq (g2 := F0 m 6 ls []) rfl ?_
  refine lv_aload_n hx hb d_B_clear_6 rfl (lv_at hl 0 rfl) ?_
  refine lv_iload_n hx hb d_B_clear_7 rfl (lv_at hl 2 rfl) ?_
  refine lv_iconst (v := nI 2) hx hb d_B_clear_8 (by decide) ?_
  refine ro_call (va_runV (As := [.int (nI j), .int (nI 2)]) (rest := []) ⟨hx, hb, hml, hown, hts⟩ (c_requireKind_y l dC dI ad cI cJ n tc ki ra po se bc bs op pr pe pm j (nI 2) hjj hn hkj) (cwV 2 hts (wAll_v kw_201 kw_203 ks_7 kw_1 kw_204) rfl rfl rfl (by decide +kernel) ⟨Nat.le_of_ble_eq_true rfl, Nat.le_of_ble_eq_true rfl⟩) (ro_preV bl_tt hK hP (ci := 0) (q0 := 0) rfl rfl (fun _ _ _ => trivial)) rfl rfl hl.1 rfl (lv_room (Nat.le_of_ble_eq_true rfl)) d_B_clear_9 ⟨Nat.le_of_ble_eq_true rfl, Nat.le_of_ble_eq_true rfl⟩) ?_
  refine W.eq (g2 := F0 m 12 ls []) rfl ?_
  refine lv_lload_n hx hb d_B_clear_12 rfl (lv_at hl 3 rfl) ?_
  refine lv_lconst (v := 1) hx hb d_B_clear_13 (by decide) ?_
  refine ro_call (va_runS (As := [.long x, .long 1]) (rest := []) ⟨hx, hb, hml, hown, hts⟩ (c_requireAmount_y l dC dI ad cI cJ n tc ki ra po se bc bs op pr pe pm x 1 h1 h2) (cwS 2 hts (wAll_s kw_210 kw_211 kw_1 kw_212) rfl rfl rfl (by decide +kernel) ⟨Nat.le_of_ble_eq_true rfl, Nat.le_of_ble_eq_true rfl⟩) (ro_preS bl_tt hK hP (fun _ _ _ => trivial)) rfl rfl hl.1 rfl (lv_room (Nat.le_of_ble_eq_true rfl)) d_B_clear_14 ⟨Nat.le_of_ble_eq_true rfl, Nat.le_of_ble_eq_true rfl⟩) ?_
  refine W.eq (g2 := F0 m 17 ls []) rfl ?_
  refine lv_lload_n hx hb d_B_clear_17 rfl (lv_at hl 3 rfl) ?_
  refine lv_aload_n hx hb d_B_clear_18 rfl (lv_at hl 0 rfl) ?_
  refine va_get (D := (dC, dI)) (ci := 0) (v := .ref (ad 2)) (C := "ClearingBooks") (T := T_B) (N := 12) hx hb hts wi_B hown hK hP 0 rfl rfl 2 (by decide) (hts _ kw_19) (fun _ h9 => h9) rfl d_B_clear_19 ?_
  refine lv_iload_n hx hb d_B_clear_22 rfl (lv_at hl 2 rfl) ?_
  refine xa_iaload (f := ra) hx hb hK hP 2 0 rfl rfl (j := j) (by omega) (by decide) d_B_clear_23 ?_
  refine lv_aload_n hx hb d_B_clear_24 rfl (lv_at hl 0 rfl) ?_
  refine va_get (D := (dC, dI)) (ci := 0) (v := .ref (ad 2)) (C := "ClearingBooks") (T := T_B) (N := 12) hx hb hts wi_B hown hK hP 0 rfl rfl 2 (by decide) (hts _ kw_19) (fun _ h9 => h9) rfl d_B_clear_25 ?_
  refine lv_iload_n hx hb d_B_clear_28 rfl (lv_at hl 1 rfl) ?_
  refine xa_iaload (f := ra) hx hb hK hP 2 0 rfl rfl (j := i) (by omega) (by decide) d_B_clear_29 ?_
  refine lv_iadd hx hb d_B_clear_30 ?_
  refine ro_call (va_runS (As := [.long x, .int ((ra j) + (ra i))]) (rest := []) ⟨hx, hb, hml, hown, hts⟩ (c_partRoundedUp l dC dI ad cI cJ n tc ki ra po se bc bs op pr pe pm x ((ra j) + (ra i))) (cwS 2 hts (wAll_s kw_215 kw_216 kw_1 kw_217) rfl rfl rfl (by decide +kernel) ⟨Nat.le_of_ble_eq_true rfl, Nat.le_of_ble_eq_true rfl⟩) (ro_preS bl_tt hK hP (fun _ _ _ => trivial)) rfl rfl hl.1 rfl (lv_room (Nat.le_of_ble_eq_true rfl)) d_B_clear_31 ⟨Nat.le_of_ble_eq_true rfl, Nat.le_of_ble_eq_true rfl⟩) ?_
  refine W.eq (g2 := F0 m 34 ls [.long (cgv x ((ra j) + (ra i)))]) rfl ?_
  refine lv_lstore (lv' := [(5, .long (cgv x ((ra j) + (ra i)))), (0, .ref (ad 0)), (1, .int (nI i)), (2, .int (nI j)), (3, .long x)]) hx hb d_B_clear_34 hl (by decide) rfl (fun ls hl => ?_)
  refine lv_lload_n hx hb d_B_clear_36 rfl (lv_at hl 4 rfl) ?_
  refine lv_aload_n hx hb d_B_clear_37 rfl (lv_at hl 1 rfl) ?_
  refine va_get (D := (dC, dI)) (ci := 0) (v := .ref (ad 2)) (C := "ClearingBooks") (T := T_B) (N := 12) hx hb hts wi_B hown hK hP 0 rfl rfl 2 (by decide) (hts _ kw_19) (fun _ h9 => h9) rfl d_B_clear_38 ?_
  refine lv_iload_n hx hb d_B_clear_41 rfl (lv_at hl 3 rfl) ?_
  refine xa_iaload (f := ra) hx hb hK hP 2 0 rfl rfl (j := j) (by omega) (by decide) d_B_clear_42 ?_
  refine ro_call (va_runS (As := [.long x, .int (ra j)]) (rest := []) ⟨hx, hb, hml, hown, hts⟩ (c_partRoundedDown l dC dI ad cI cJ n tc ki ra po se bc bs op pr pe pm x (ra j)) (cwS 2 hts (wAll_s kw_219 kw_220 kw_1 kw_221) rfl rfl rfl (by decide +kernel) ⟨Nat.le_of_ble_eq_true rfl, Nat.le_of_ble_eq_true rfl⟩) (ro_preS bl_tt hK hP (fun _ _ _ => trivial)) rfl rfl hl.1 rfl (lv_room (Nat.le_of_ble_eq_true rfl)) d_B_clear_43 ⟨Nat.le_of_ble_eq_true rfl, Nat.le_of_ble_eq_true rfl⟩) ?_
  refine W.eq (g2 := F0 m 46 ls [.long (dnv x (ra j))]) rfl ?_
  refine lv_lstore (lv' := [(7, .long (dnv x (ra j))), (5, .long (cgv x ((ra j) + (ra i)))), (0, .ref (ad 0)), (1, .int (nI i)), (2, .int (nI j)), (3, .long x)]) hx hb d_B_clear_46 hl (by decide) rfl (fun ls hl => ?_)
  refine lv_aload_n hx hb d_B_clear_48 rfl (lv_at hl 2 rfl) ?_
  refine va_get (D := (dC, dI)) (ci := 0) (v := .ref (ad 3)) (C := "ClearingBooks") (T := T_B) (N := 12) hx hb hts wi_B hown hK hP 0 rfl rfl 3 (by decide) (hts _ kw_20) (fun _ h9 => h9) rfl d_B_clear_49 ?_
  refine lv_iload_n hx hb d_B_clear_52 rfl (lv_at hl 3 rfl) ?_
  refine lv_dup2_11 hx hb d_B_clear_53 rfl rfl ?_
  refine xa_laload (f := po) hx hb hK hP 3 1 rfl rfl (j := i) (by omega) (by decide) d_B_clear_54 ?_
  refine lv_lload_n hx hb d_B_clear_55 rfl (lv_at hl 5 rfl) ?_
  refine lv_lload hx hb d_B_clear_56 (lv_at hl 1 rfl) ?_
  refine lv_lsub hx hb d_B_clear_58 ?_
  refine lv_ladd hx hb d_B_clear_59 ?_
  refine xa_lastore (f := po) (x := (po i) + (x - (cgv x ((ra j) + (ra i))))) hx hb hK hP hD hS 3 1 rfl rfl (j := i) (by omega) (by decide) d_B_clear_60 (fun H locs hP hD hS => ?_)
  have hP : va_P (dC, dI) vwCl (cb_w ad cI cJ n tc ki ra (vp_updL po i ((po i) + (x - (cgv x ((ra j) + (ra i)))))) se bc bs op pr pe pm) H := hP
  have hD : va_D A (cb_w ad cI cJ n tc ki ra (vp_updL po i ((po i) + (x - (cgv x ((ra j) + (ra i)))))) se bc bs op pr pe pm) := hD
  refine lv_aload_n hx hb d_B_clear_61 rfl (lv_at hl 2 rfl) ?_
  refine va_get (D := (dC, dI)) (ci := 0) (v := .ref (ad 3)) (C := "ClearingBooks") (T := T_B) (N := 12) hx hb hts wi_B hown hK hP 0 rfl rfl 3 (by decide) (hts _ kw_20) (fun _ h9 => h9) rfl d_B_clear_62 ?_
  refine lv_iload_n hx hb d_B_clear_65 rfl (lv_at hl 4 rfl) ?_
  refine lv_dup2_11 hx hb d_B_clear_66 rfl rfl ?_
  refine xa_laload (f := vp_updL po i ((po i) + (x - (cgv x ((ra j) + (ra i)))))) hx hb hK hP 3 1 rfl rfl (j := j) (by omega) (by decide) d_B_clear_67 ?_
  refine lv_lload hx hb d_B_clear_68 (lv_at hl 0 rfl) ?_
  refine lv_lload_n hx hb d_B_clear_70 rfl (lv_at hl 5 rfl) ?_
  refine lv_lsub hx hb d_B_clear_71 ?_
  refine lv_ladd hx hb d_B_clear_72 ?_
  refine xa_lastore (f := vp_updL po i ((po i) + (x - (cgv x ((ra j) + (ra i)))))) (x := ((vp_updL po i ((po i) + (x - (cgv x ((ra j) + (ra i)))))) j) + ((dnv x (ra j)) - x)) hx hb hK hP hD hS 3 1 rfl rfl (j := j) (by omega) (by decide) d_B_clear_73 (fun H locs hP hD hS => ?_)
  have hP : va_P (dC, dI) vwCl (cb_w ad cI cJ n tc ki ra (vp_updL (vp_updL po i ((po i) + (x - (cgv x ((ra j) + (ra i)))))) j (((vp_updL po i ((po i) + (x - (cgv x ((ra j) + (ra i)))))) j) + ((dnv x (ra j)) - x))) se bc bs op pr pe pm) H := hP
  have hD : va_D A (cb_w ad cI cJ n tc ki ra (vp_updL (vp_updL po i ((po i) + (x - (cgv x ((ra j) + (ra i)))))) j (((vp_updL po i ((po i) + (x - (cgv x ((ra j) + (ra i)))))) j) + ((dnv x (ra j)) - x))) se bc bs op pr pe pm) := hD
  refine lv_aload_n hx hb d_B_clear_74 rfl (lv_at hl 2 rfl) ?_
  refine va_get (D := (dC, dI)) (ci := 0) (v := .ref (ad 3)) (C := "ClearingBooks") (T := T_B) (N := 12) hx hb hts wi_B hown hK hP 0 rfl rfl 3 (by decide) (hts _ kw_20) (fun _ h9 => h9) rfl d_B_clear_75 ?_
  refine lv_iconst (v := nI 0) hx hb d_B_clear_78 (by decide) ?_
  refine lv_dup2_11 hx hb d_B_clear_79 rfl rfl ?_
  refine xa_laload (f := vp_updL (vp_updL po i ((po i) + (x - (cgv x ((ra j) + (ra i)))))) j (((vp_updL po i ((po i) + (x - (cgv x ((ra j) + (ra i)))))) j) + ((dnv x (ra j)) - x))) hx hb hK hP 3 1 rfl rfl (j := 0) (by omega) (by decide) d_B_clear_80 ?_
  refine lv_lload hx hb d_B_clear_81 (lv_at hl 1 rfl) ?_
  refine lv_lload hx hb d_B_clear_83 (lv_at hl 0 rfl) ?_
  refine lv_lsub hx hb d_B_clear_85 ?_
  refine lv_ladd hx hb d_B_clear_86 ?_
  refine xa_lastore (f := vp_updL (vp_updL po i ((po i) + (x - (cgv x ((ra j) + (ra i)))))) j (((vp_updL po i ((po i) + (x - (cgv x ((ra j) + (ra i)))))) j) + ((dnv x (ra j)) - x))) (x := ((vp_updL (vp_updL po i ((po i) + (x - (cgv x ((ra j) + (ra i)))))) j (((vp_updL po i ((po i) + (x - (cgv x ((ra j) + (ra i)))))) j) + ((dnv x (ra j)) - x))) 0) + ((cgv x ((ra j) + (ra i))) - (dnv x (ra j)))) hx hb hK hP hD hS 3 1 rfl rfl (j := 0) (by omega) (by decide) d_B_clear_87 (fun H locs hP hD hS => ?_)
  have hP : va_P (dC, dI) vwCl (cb_w ad cI cJ n tc ki ra (vp_updL (vp_updL (vp_updL po i ((po i) + (x - (cgv x ((ra j) + (ra i)))))) j (((vp_updL po i ((po i) + (x - (cgv x ((ra j) + (ra i)))))) j) + ((dnv x (ra j)) - x))) 0 (((vp_updL (vp_updL po i ((po i) + (x - (cgv x ((ra j) + (ra i)))))) j (((vp_updL po i ((po i) + (x - (cgv x ((ra j) + (ra i)))))) j) + ((dnv x (ra j)) - x))) 0) + ((cgv x ((ra j) + (ra i))) - (dnv x (ra j))))) se bc bs op pr pe pm) H := hP
  have hD : va_D A (cb_w ad cI cJ n tc ki ra (vp_updL (vp_updL (vp_updL po i ((po i) + (x - (cgv x ((ra j) + (ra i)))))) j (((vp_updL po i ((po i) + (x - (cgv x ((ra j) + (ra i)))))) j) + ((dnv x (ra j)) - x))) 0 (((vp_updL (vp_updL po i ((po i) + (x - (cgv x ((ra j) + (ra i)))))) j (((vp_updL po i ((po i) + (x - (cgv x ((ra j) + (ra i)))))) j) + ((dnv x (ra j)) - x))) 0) + ((cgv x ((ra j) + (ra i))) - (dnv x (ra j))))) se bc bs op pr pe pm) := hD
  refine lv_aload_n hx hb d_B_clear_88 rfl (lv_at hl 2 rfl) ?_
  refine va_get (D := (dC, dI)) (ci := 0) (v := .ref (ad 5)) (C := "ClearingBooks") (T := T_B) (N := 12) hx hb hts wi_B hown hK hP 0 rfl rfl 5 (by decide) (hts _ kw_22) (fun _ h9 => h9) rfl d_B_clear_89 ?_
  refine lv_iload_n hx hb d_B_clear_92 rfl (lv_at hl 3 rfl) ?_
  refine lv_dup2_11 hx hb d_B_clear_93 rfl rfl ?_
  refine xa_iaload (f := bc) hx hb hK hP 5 0 rfl rfl (j := i) (by omega) (by decide) d_B_clear_94 ?_
  refine lv_iconst (v := nI 1) hx hb d_B_clear_95 (by decide) ?_
  refine lv_iadd hx hb d_B_clear_96 ?_
  refine xa_iastore (f := bc) (x := (bc i) + (nI 1)) hx hb hK hP hD hS 5 0 rfl rfl (j := i) (by omega) (by decide) d_B_clear_97 (fun H locs hP hD hS => ?_)
  have hP : va_P (dC, dI) vwCl (cb_w ad cI cJ n tc ki ra (vp_updL (vp_updL (vp_updL po i ((po i) + (x - (cgv x ((ra j) + (ra i)))))) j (((vp_updL po i ((po i) + (x - (cgv x ((ra j) + (ra i)))))) j) + ((dnv x (ra j)) - x))) 0 (((vp_updL (vp_updL po i ((po i) + (x - (cgv x ((ra j) + (ra i)))))) j (((vp_updL po i ((po i) + (x - (cgv x ((ra j) + (ra i)))))) j) + ((dnv x (ra j)) - x))) 0) + ((cgv x ((ra j) + (ra i))) - (dnv x (ra j))))) se (upd bc i ((bc i) + (nI 1))) bs op pr pe pm) H := hP
  have hD : va_D A (cb_w ad cI cJ n tc ki ra (vp_updL (vp_updL (vp_updL po i ((po i) + (x - (cgv x ((ra j) + (ra i)))))) j (((vp_updL po i ((po i) + (x - (cgv x ((ra j) + (ra i)))))) j) + ((dnv x (ra j)) - x))) 0 (((vp_updL (vp_updL po i ((po i) + (x - (cgv x ((ra j) + (ra i)))))) j (((vp_updL po i ((po i) + (x - (cgv x ((ra j) + (ra i)))))) j) + ((dnv x (ra j)) - x))) 0) + ((cgv x ((ra j) + (ra i))) - (dnv x (ra j))))) se (upd bc i ((bc i) + (nI 1))) bs op pr pe pm) := hD
  refine lv_aload_n hx hb d_B_clear_98 rfl (lv_at hl 2 rfl) ?_
  refine va_get (D := (dC, dI)) (ci := 0) (v := .ref (ad 6)) (C := "ClearingBooks") (T := T_B) (N := 12) hx hb hts wi_B hown hK hP 0 rfl rfl 6 (by decide) (hts _ kw_23) (fun _ h9 => h9) rfl d_B_clear_99 ?_
  refine lv_iload_n hx hb d_B_clear_102 rfl (lv_at hl 3 rfl) ?_
  refine lv_dup2_11 hx hb d_B_clear_103 rfl rfl ?_
  refine xa_laload (f := bs) hx hb hK hP 6 1 rfl rfl (j := i) (by omega) (by decide) d_B_clear_104 ?_
  refine lv_lload_n hx hb d_B_clear_105 rfl (lv_at hl 5 rfl) ?_
  refine lv_ladd hx hb d_B_clear_106 ?_
  refine xa_lastore (f := bs) (x := (bs i) + x) hx hb hK hP hD hS 6 1 rfl rfl (j := i) (by omega) (by decide) d_B_clear_107 (fun H locs hP hD hS => ?_)
  have hP : va_P (dC, dI) vwCl (cb_w ad cI cJ n tc ki ra (vp_updL (vp_updL (vp_updL po i ((po i) + (x - (cgv x ((ra j) + (ra i)))))) j (((vp_updL po i ((po i) + (x - (cgv x ((ra j) + (ra i)))))) j) + ((dnv x (ra j)) - x))) 0 (((vp_updL (vp_updL po i ((po i) + (x - (cgv x ((ra j) + (ra i)))))) j (((vp_updL po i ((po i) + (x - (cgv x ((ra j) + (ra i)))))) j) + ((dnv x (ra j)) - x))) 0) + ((cgv x ((ra j) + (ra i))) - (dnv x (ra j))))) se (upd bc i ((bc i) + (nI 1))) (vp_updL bs i ((bs i) + x)) op pr pe pm) H := hP
  have hD : va_D A (cb_w ad cI cJ n tc ki ra (vp_updL (vp_updL (vp_updL po i ((po i) + (x - (cgv x ((ra j) + (ra i)))))) j (((vp_updL po i ((po i) + (x - (cgv x ((ra j) + (ra i)))))) j) + ((dnv x (ra j)) - x))) 0 (((vp_updL (vp_updL po i ((po i) + (x - (cgv x ((ra j) + (ra i)))))) j (((vp_updL po i ((po i) + (x - (cgv x ((ra j) + (ra i)))))) j) + ((dnv x (ra j)) - x))) 0) + ((cgv x ((ra j) + (ra i))) - (dnv x (ra j))))) se (upd bc i ((bc i) + (nI 1))) (vp_updL bs i ((bs i) + x)) op pr pe pm) := hD
  refine lv_lload hx hb d_B_clear_108 (lv_at hl 1 rfl) ?_
  exact W.lret (v := cgv x ((ra j) + (ra i))) hx hb hr (fun t ht hW => ⟨⟨cgv x ((ra j) + (ra i)), (), rfl, rfl, by rw [ht]; exact hP, va_K.moved hW.alike hK, hD⟩, hS.F ht⟩) hS.2.2 d_B_clear_110
set_option maxHeartbeats 4000000 in
set_option maxRecDepth 100000 in
theorem c_clear_ta (l : Launch) (dC : Nat → ClassId) (dI : Nat → Nat → Nat) (ad : Nat → Nat) (cI cJ : ClassId) (n tc : Nat) (ki ra : Nat → Int32) (po se : Nat → Int64) (bc : Nat → Int32) (bs op : Nat → Int64) (pr pe : Nat → Int32) (pm : Nat → Int64) (a b : Int32) (x : Int64) (hn : n ≤ 15) (hno : ¬ is_k n ki a (nI 1)) (hl0 : l.stackTraces = false) : xt_Met l y_B_clear (.code y_B_clear b_B_clear 9 (some .long) :: wAll) ({ frames := 7, cells := 1, slots := 6, locals := 113 } : Room) (ro_P [.ref (ad 0), .int a, .int b, .long x] (dC, dI) vwCl [(cI, .int), (cJ, .long)] (cb_w ad cI cJ n tc ki ra po se bc bs op pr pe pm) (xc_ok "ClearingBooks" cb_ks)) "java/lang/IllegalArgumentException" 1 6 := by
  refine xt_ofW (cc := b_B_clear) (maxL := 9) (ret := (some .long)) (by decide) rfl ?_
  intro p e s m args below meth c s₁ B hml hv
  obtain ⟨rfl, hP, hK, hB⟩ := hv
  have hx := B.exec
  have hb := B.bytes
  have hr := B.returns
  have hts0 := atoms_spec (ws := (.code y_B_clear b_B_clear 9 (some .long) :: wAll)) B.pre
  have hts := hts_all hts0
  have hown : s.vm.findClass "ClearingBooks" = some m.cls := findClass_of_methodNamed B.named
  have hlocks := B.notSynchronized
  have hnh := B.noHandlers (hts0 _ List.mem_cons_self)
  have hout : ∀ pc9 : Nat, ∀ x ∈ c.exceptionTable.toList, covers x pc9 = false := fun pc9 x hx9 => by rw [xt_nil hnh] at hx9; cases hx9
  have hl := lv_entry ([.ref (ad 0), .int a, .int b, .long x]) (n := 9) (Nat.le_of_ble_eq_true rfl)
  rw [lg_entry_eq]
  generalize (lg_sl ([.ref (ad 0), .int a, .int b, .long x]) ++ List.replicate (9 - (lg_sl ([.ref (ad 0), .int a, .int b, .long x])).length) Slot.unset).toArray = ls at hl ⊢
  have hl : lv_has ls 9 [(0, .ref (ad 0)), (1, .int a), (2, .int b), (3, .long x)] := hl
  refine lv_aload_n hx hb d_B_clear_0 rfl (lv_at hl 0 rfl) ?_
  refine lv_iload_n hx hb d_B_clear_1 rfl (lv_at hl 1 rfl) ?_
  refine lv_iconst (v := nI 1) hx hb d_B_clear_2 (by decide) ?_
  exact xt_pass (xt_runV (As := [.int a, .int (nI 1)]) (rest := []) ⟨hx, hb, hml, hown, hts⟩ (c_requireKind_t l dC dI ad cI cJ n tc ki ra po se bc bs op pr pe pm a (nI 1) hn hno hl0) (cwV 2 hts (wAll_v kw_201 kw_203 ks_7 kw_1 kw_204) rfl rfl rfl (by decide +kernel) ⟨Nat.le_of_ble_eq_true rfl, Nat.le_of_ble_eq_true rfl⟩) (ro_preV bl_xc hK hP (ci := 0) (q0 := 0) rfl rfl (fun U hU hW => xc_moved hB hW (fun q _ => by rw [hU]))) rfl rfl hl.1 rfl (lv_room (Nat.le_of_ble_eq_true rfl)) d_B_clear_3 ⟨Nat.le_of_ble_eq_true rfl, Nat.le_of_ble_eq_true rfl⟩) (hout _) hlocks (Nat.le_of_ble_eq_true rfl) (Nat.le_of_ble_eq_true rfl)
set_option maxHeartbeats 4000000 in
set_option maxRecDepth 100000 in
theorem c_clear_tb (l : Launch) (dC : Nat → ClassId) (dI : Nat → Nat → Nat) (ad : Nat → Nat) (cI cJ : ClassId) (n tc : Nat) (ki ra : Nat → Int32) (po se : Nat → Int64) (bc : Nat → Int32) (bs op : Nat → Int64) (pr pe : Nat → Int32) (pm : Nat → Int64) (i : Nat) (b : Int32) (x : Int64) (hji : i < n) (hn : n ≤ 15) (hki : ki i = nI 1) (hno : ¬ is_k n ki b (nI 2)) (hl0 : l.stackTraces = false) : xt_Met l y_B_clear (.code y_B_clear b_B_clear 9 (some .long) :: wAll) ({ frames := 7, cells := 1, slots := 6, locals := 113 } : Room) (ro_P [.ref (ad 0), .int (nI i), .int b, .long x] (dC, dI) vwCl [(cI, .int), (cJ, .long)] (cb_w ad cI cJ n tc ki ra po se bc bs op pr pe pm) (xc_ok "ClearingBooks" cb_ks)) "java/lang/IllegalArgumentException" 1 6 := by
  refine xt_ofW (cc := b_B_clear) (maxL := 9) (ret := (some .long)) (by decide) rfl ?_
  intro p e s m args below meth c s₁ B hml hv
  obtain ⟨rfl, hP, hK, hB⟩ := hv
  have hx := B.exec
  have hb := B.bytes
  have hr := B.returns
  have hts0 := atoms_spec (ws := (.code y_B_clear b_B_clear 9 (some .long) :: wAll)) B.pre
  have hts := hts_all hts0
  have hown : s.vm.findClass "ClearingBooks" = some m.cls := findClass_of_methodNamed B.named
  have hlocks := B.notSynchronized
  have hnh := B.noHandlers (hts0 _ List.mem_cons_self)
  have hout : ∀ pc9 : Nat, ∀ x ∈ c.exceptionTable.toList, covers x pc9 = false := fun pc9 x hx9 => by rw [xt_nil hnh] at hx9; cases hx9
  have hl := lv_entry ([.ref (ad 0), .int (nI i), .int b, .long x]) (n := 9) (Nat.le_of_ble_eq_true rfl)
  rw [lg_entry_eq]
  generalize (lg_sl ([.ref (ad 0), .int (nI i), .int b, .long x]) ++ List.replicate (9 - (lg_sl ([.ref (ad 0), .int (nI i), .int b, .long x])).length) Slot.unset).toArray = ls at hl ⊢
  have hl : lv_has ls 9 [(0, .ref (ad 0)), (1, .int (nI i)), (2, .int b), (3, .long x)] := hl
  refine lv_aload_n hx hb d_B_clear_0 rfl (lv_at hl 0 rfl) ?_
  refine lv_iload_n hx hb d_B_clear_1 rfl (lv_at hl 1 rfl) ?_
  refine lv_iconst (v := nI 1) hx hb d_B_clear_2 (by decide) ?_
  refine ro_call (va_runV (As := [.int (nI i), .int (nI 1)]) (rest := []) ⟨hx, hb, hml, hown, hts⟩ (c_requireKind_y l dC dI ad cI cJ n tc ki ra po se bc bs op pr pe pm i (nI 1) hji hn hki) (cwV 2 hts (wAll_v kw_201 kw_203 ks_7 kw_1 kw_204) rfl rfl rfl (by decide +kernel) ⟨Nat.le_of_ble_eq_true rfl, Nat.le_of_ble_eq_true rfl⟩) (ro_preV bl_tt hK hP (ci := 0) (q0 := 0) rfl rfl (fun _ _ _ => trivial)) rfl rfl hl.1 rfl (lv_room (Nat.le_of_ble_eq_true rfl)) d_B_clear_3 ⟨Nat.le_of_ble_eq_true rfl, Nat.le_of_ble_eq_true rfl⟩) ?_
  refine W.eq (g2 := F0 m 6 ls []) rfl ?_
  refine lv_aload_n hx hb d_B_clear_6 rfl (lv_at hl 0 rfl) ?_
  refine lv_iload_n hx hb d_B_clear_7 rfl (lv_at hl 2 rfl) ?_
  refine lv_iconst (v := nI 2) hx hb d_B_clear_8 (by decide) ?_
  exact xt_pass (xt_runV (As := [.int b, .int (nI 2)]) (rest := []) ⟨hx, hb, hml, hown, hts⟩ (c_requireKind_t l dC dI ad cI cJ n tc ki ra po se bc bs op pr pe pm b (nI 2) hn hno hl0) (cwV 2 hts (wAll_v kw_201 kw_203 ks_7 kw_1 kw_204) rfl rfl rfl (by decide +kernel) ⟨Nat.le_of_ble_eq_true rfl, Nat.le_of_ble_eq_true rfl⟩) (ro_preV bl_xc hK hP (ci := 0) (q0 := 0) rfl rfl (fun U hU hW => xc_moved hB hW (fun q _ => by rw [hU]))) rfl rfl hl.1 rfl (lv_room (Nat.le_of_ble_eq_true rfl)) d_B_clear_9 ⟨Nat.le_of_ble_eq_true rfl, Nat.le_of_ble_eq_true rfl⟩) (hout _) hlocks (Nat.le_of_ble_eq_true rfl) (Nat.le_of_ble_eq_true rfl)
set_option maxHeartbeats 4000000 in
set_option maxRecDepth 100000 in
theorem c_clear_tx (l : Launch) (dC : Nat → ClassId) (dI : Nat → Nat → Nat) (ad : Nat → Nat) (cI cJ : ClassId) (n tc : Nat) (ki ra : Nat → Int32) (po se : Nat → Int64) (bc : Nat → Int32) (bs op : Nat → Int64) (pr pe : Nat → Int32) (pm : Nat → Int64) (i j : Nat) (x : Int64) (hji : i < n) (hjj : j < n) (hn : n ≤ 15) (hki : ki i = nI 1) (hkj : ki j = nI 2) (hno : ¬ (¬ x < 1 ∧ ¬ 1000000000000 < x)) (hl0 : l.stackTraces = false) : xt_Met l y_B_clear (.code y_B_clear b_B_clear 9 (some .long) :: wAll) ({ frames := 7, cells := 1, slots := 6, locals := 113 } : Room) (ro_P [.ref (ad 0), .int (nI i), .int (nI j), .long x] (dC, dI) vwCl [(cI, .int), (cJ, .long)] (cb_w ad cI cJ n tc ki ra po se bc bs op pr pe pm) (xc_ok "ClearingBooks" cb_ks)) "java/lang/IllegalArgumentException" 1 6 := by
  refine xt_ofW (cc := b_B_clear) (maxL := 9) (ret := (some .long)) (by decide) rfl ?_
  intro p e s m args below meth c s₁ B hml hv
  obtain ⟨rfl, hP, hK, hB⟩ := hv
  have hx := B.exec
  have hb := B.bytes
  have hr := B.returns
  have hts0 := atoms_spec (ws := (.code y_B_clear b_B_clear 9 (some .long) :: wAll)) B.pre
  have hts := hts_all hts0
  have hown : s.vm.findClass "ClearingBooks" = some m.cls := findClass_of_methodNamed B.named
  have hlocks := B.notSynchronized
  have hnh := B.noHandlers (hts0 _ List.mem_cons_self)
  have hout : ∀ pc9 : Nat, ∀ x ∈ c.exceptionTable.toList, covers x pc9 = false := fun pc9 x hx9 => by rw [xt_nil hnh] at hx9; cases hx9
  have hl := lv_entry ([.ref (ad 0), .int (nI i), .int (nI j), .long x]) (n := 9) (Nat.le_of_ble_eq_true rfl)
  rw [lg_entry_eq]
  generalize (lg_sl ([.ref (ad 0), .int (nI i), .int (nI j), .long x]) ++ List.replicate (9 - (lg_sl ([.ref (ad 0), .int (nI i), .int (nI j), .long x])).length) Slot.unset).toArray = ls at hl ⊢
  have hl : lv_has ls 9 [(0, .ref (ad 0)), (1, .int (nI i)), (2, .int (nI j)), (3, .long x)] := hl
  refine lv_aload_n hx hb d_B_clear_0 rfl (lv_at hl 0 rfl) ?_
  refine lv_iload_n hx hb d_B_clear_1 rfl (lv_at hl 1 rfl) ?_
  refine lv_iconst (v := nI 1) hx hb d_B_clear_2 (by decide) ?_
  refine ro_call (va_runV (As := [.int (nI i), .int (nI 1)]) (rest := []) ⟨hx, hb, hml, hown, hts⟩ (c_requireKind_y l dC dI ad cI cJ n tc ki ra po se bc bs op pr pe pm i (nI 1) hji hn hki) (cwV 2 hts (wAll_v kw_201 kw_203 ks_7 kw_1 kw_204) rfl rfl rfl (by decide +kernel) ⟨Nat.le_of_ble_eq_true rfl, Nat.le_of_ble_eq_true rfl⟩) (ro_preV bl_tt hK hP (ci := 0) (q0 := 0) rfl rfl (fun _ _ _ => trivial)) rfl rfl hl.1 rfl (lv_room (Nat.le_of_ble_eq_true rfl)) d_B_clear_3 ⟨Nat.le_of_ble_eq_true rfl, Nat.le_of_ble_eq_true rfl⟩) ?_
  refine W.eq (g2 := F0 m 6 ls []) rfl ?_
  refine lv_aload_n hx hb d_B_clear_6 rfl (lv_at hl 0 rfl) ?_
  refine lv_iload_n hx hb d_B_clear_7 rfl (lv_at hl 2 rfl) ?_
  refine lv_iconst (v := nI 2) hx hb d_B_clear_8 (by decide) ?_
  refine ro_call (va_runV (As := [.int (nI j), .int (nI 2)]) (rest := []) ⟨hx, hb, hml, hown, hts⟩ (c_requireKind_y l dC dI ad cI cJ n tc ki ra po se bc bs op pr pe pm j (nI 2) hjj hn hkj) (cwV 2 hts (wAll_v kw_201 kw_203 ks_7 kw_1 kw_204) rfl rfl rfl (by decide +kernel) ⟨Nat.le_of_ble_eq_true rfl, Nat.le_of_ble_eq_true rfl⟩) (ro_preV bl_tt hK hP (ci := 0) (q0 := 0) rfl rfl (fun _ _ _ => trivial)) rfl rfl hl.1 rfl (lv_room (Nat.le_of_ble_eq_true rfl)) d_B_clear_9 ⟨Nat.le_of_ble_eq_true rfl, Nat.le_of_ble_eq_true rfl⟩) ?_
  refine W.eq (g2 := F0 m 12 ls []) rfl ?_
  refine lv_lload_n hx hb d_B_clear_12 rfl (lv_at hl 3 rfl) ?_
  refine lv_lconst (v := 1) hx hb d_B_clear_13 (by decide) ?_
  exact xt_pass (xt_runS (As := [.long x, .long 1]) (rest := []) ⟨hx, hb, hml, hown, hts⟩ (c_requireAmount_t l dC dI ad cI cJ n tc ki ra po se bc bs op pr pe pm x 1 hno hl0) (cwS 2 hts (wAll_s kw_210 kw_211 kw_1 kw_212) rfl rfl rfl (by decide +kernel) ⟨Nat.le_of_ble_eq_true rfl, Nat.le_of_ble_eq_true rfl⟩) (ro_preS bl_xc hK hP (fun U hU hW => xc_moved hB hW (fun q _ => by rw [hU]))) rfl rfl hl.1 rfl (lv_room (Nat.le_of_ble_eq_true rfl)) d_B_clear_14 ⟨Nat.le_of_ble_eq_true rfl, Nat.le_of_ble_eq_true rfl⟩) (hout _) hlocks (Nat.le_of_ble_eq_true rfl) (Nat.le_of_ble_eq_true rfl)
set_option maxHeartbeats 4000000 in
set_option maxRecDepth 100000 in
theorem c_back_y (l : Launch) (dC : Nat → ClassId) (dI : Nat → Nat → Nat) (ad : Nat → Nat) (cI cJ : ClassId) (n tc : Nat) (ki ra : Nat → Int32) (po se : Nat → Int64) (bc : Nat → Int32) (bs op : Nat → Int64) (pr pe : Nat → Int32) (pm : Nat → Int64) (sz : Nat) (i j : Nat) (x : Int64) (hji : i < n) (hjj : j < n) (hn : n ≤ 15) (hki : ki i = nI 1) (hkj : ki j = nI 2) (h1 : ¬ x < (-1000000000000)) (h2 : ¬ 1000000000000 < x) : Met l y_B_back (.code y_B_back b_B_back 5 (some .long) :: wAll) ({ frames := 2, cells := 0, slots := 0, locals := 43 } : Room) (mu_P [.ref (ad 0), .int (nI i), .int (nI j), .long x] (dC, dI) vwCl [(cI, .int), (cJ, .long)] (cb_w ad cI cJ n tc ki ra po se bc bs op pr pe pm) sz) (va_Ql (fun (z : Int64) (_ : Unit) => z = po_bk po i j x i) (mu_B (dC, dI) vwCl [(cI, .int), (cJ, .long)] (va_A (cb_w ad cI cJ n tc ki ra po se bc bs op pr pe pm) sz) (cb_w ad cI cJ n tc ki ra (po_bk po i j x) se bc bs op pr pe pm)) (va_A (cb_w ad cI cJ n tc ki ra po se bc bs op pr pe pm) sz)) 0 0 (va_A (cb_w ad cI cJ n tc ki ra po se bc bs op pr pe pm) sz) := by
  refine Met.ofW (cc := b_B_back) (maxL := 5) (ret := (some .long)) (by decide) rfl ?_
  intro p e s m args below meth c s₁ B hml hv
  obtain ⟨rfl, hsz, hP, hK, hD0⟩ := hv
  have hx := B.exec
  have hb := B.bytes
  have hr := B.returns
  have hts0 := atoms_spec (ws := (.code y_B_back b_B_back 5 (some .long) :: wAll)) B.pre
  have hts := hts_all hts0
  have hown : s.vm.findClass "ClearingBooks" = some m.cls := findClass_of_methodNamed B.named
  have hlocks := B.notSynchronized
  subst hsz
  have hD := hD0.self (sz := s.heap.size)
  generalize hAe : va_A (cb_w ad cI cJ n tc ki ra po se bc bs op pr pe pm) s.heap.size = A at hD ⊢
  have hA : ∀ q : Nat, s.heap.size ≤ q → A q := fun q h => by rw [← hAe]; exact Or.inr h
  have hS : va_S A s.heap s.heap [] := va_S.rf
  have hl := lv_entry ([.ref (ad 0), .int (nI i), .int (nI j), .long x]) (n := 5) (Nat.le_of_ble_eq_true rfl)
  rw [lg_entry_eq]
  generalize (lg_sl ([.ref (ad 0), .int (nI i), .int (nI j), .long x]) ++ List.replicate (5 - (lg_sl ([.ref (ad 0), .int (nI i), .int (nI j), .long x])).length) Slot.unset).toArray = ls at hl ⊢
  have hl : lv_has ls 5 [(0, .ref (ad 0)), (1, .int (nI i)), (2, .int (nI j)), (3, .long x)] := hl
  refine lv_aload_n hx hb d_B_back_0 rfl (lv_at hl 0 rfl) ?_
  refine lv_iload_n hx hb d_B_back_1 rfl (lv_at hl 1 rfl) ?_
  refine lv_iconst (v := nI 1) hx hb d_B_back_2 (by decide) ?_
  refine ro_call (va_runV (As := [.int (nI i), .int (nI 1)]) (rest := []) ⟨hx, hb, hml, hown, hts⟩ (c_requireKind_y l dC dI ad cI cJ n tc ki ra po se bc bs op pr pe pm i (nI 1) hji hn hki) (cwV 2 hts (wAll_v kw_201 kw_203 ks_7 kw_1 kw_204) rfl rfl rfl (by decide +kernel) ⟨Nat.le_of_ble_eq_true rfl, Nat.le_of_ble_eq_true rfl⟩) (ro_preV bl_tt hK hP (ci := 0) (q0 := 0) rfl rfl (fun _ _ _ => trivial)) rfl rfl hl.1 rfl (lv_room (Nat.le_of_ble_eq_true rfl)) d_B_back_3 ⟨Nat.le_of_ble_eq_true rfl, Nat.le_of_ble_eq_true rfl⟩) ?_
  refine W.eq (g2 := F0 m 6 ls []) rfl ?_
  refine lv_aload_n hx hb d_B_back_6 rfl (lv_at hl 0 rfl) ?_
  refine lv_iload_n hx hb d_B_back_7 rfl (lv_at hl 2 rfl) ?_
  refine lv_iconst (v := nI 2) hx hb d_B_back_8 (by decide) ?_
  refine ro_call (va_runV (As := [.int (nI j), .int (nI 2)]) (rest := []) ⟨hx, hb, hml, hown, hts⟩ (c_requireKind_y l dC dI ad cI cJ n tc ki ra po se bc bs op pr pe pm j (nI 2) hjj hn hkj) (cwV 2 hts (wAll_v kw_201 kw_203 ks_7 kw_1 kw_204) rfl rfl rfl (by decide +kernel) ⟨Nat.le_of_ble_eq_true rfl, Nat.le_of_ble_eq_true rfl⟩) (ro_preV bl_tt hK hP (ci := 0) (q0 := 0) rfl rfl (fun _ _ _ => trivial)) rfl rfl hl.1 rfl (lv_room (Nat.le_of_ble_eq_true rfl)) d_B_back_9 ⟨Nat.le_of_ble_eq_true rfl, Nat.le_of_ble_eq_true rfl⟩) ?_
  refine W.eq (g2 := F0 m 12 ls []) rfl ?_
  refine lv_lload_n hx hb d_B_back_12 rfl (lv_at hl 3 rfl) ?_
  refine lv_ldc2 (v := (-1000000000000)) hx hb hown (hts _ kw_229) d_B_back_13 ?_
  refine ro_call (va_runS (As := [.long x, .long ((-1000000000000))]) (rest := []) ⟨hx, hb, hml, hown, hts⟩ (c_requireAmount_y l dC dI ad cI cJ n tc ki ra po se bc bs op pr pe pm x ((-1000000000000)) h1 h2) (cwS 2 hts (wAll_s kw_210 kw_211 kw_1 kw_212) rfl rfl rfl (by decide +kernel) ⟨Nat.le_of_ble_eq_true rfl, Nat.le_of_ble_eq_true rfl⟩) (ro_preS bl_tt hK hP (fun _ _ _ => trivial)) rfl rfl hl.1 rfl (lv_room (Nat.le_of_ble_eq_true rfl)) d_B_back_16 ⟨Nat.le_of_ble_eq_true rfl, Nat.le_of_ble_eq_true rfl⟩) ?_
  refine W.eq (g2 := F0 m 19 ls []) rfl ?_
  refine lv_aload_n hx hb d_B_back_19 rfl (lv_at hl 0 rfl) ?_
  refine va_get (D := (dC, dI)) (ci := 0) (v := .ref (ad 3)) (C := "ClearingBooks") (T := T_B) (N := 12) hx hb hts wi_B hown hK hP 0 rfl rfl 3 (by decide) (hts _ kw_20) (fun _ h9 => h9) rfl d_B_back_20 ?_
  refine lv_iload_n hx hb d_B_back_23 rfl (lv_at hl 1 rfl) ?_
  refine lv_dup2_11 hx hb d_B_back_24 rfl rfl ?_
  refine xa_laload (f := po) hx hb hK hP 3 1 rfl rfl (j := i) (by omega) (by decide) d_B_back_25 ?_
  refine lv_lload_n hx hb d_B_back_26 rfl (lv_at hl 3 rfl) ?_
  refine lv_lsub hx hb d_B_back_27 ?_
  refine xa_lastore (f := po) (x := (po i) - x) hx hb hK hP hD hS 3 1 rfl rfl (j := i) (by omega) (by decide) d_B_back_28 (fun H locs hP hD hS => ?_)
  have hP : va_P (dC, dI) vwCl (cb_w ad cI cJ n tc ki ra (vp_updL po i ((po i) - x)) se bc bs op pr pe pm) H := hP
  have hD : va_D A (cb_w ad cI cJ n tc ki ra (vp_updL po i ((po i) - x)) se bc bs op pr pe pm) := hD
  refine lv_aload_n hx hb d_B_back_29 rfl (lv_at hl 0 rfl) ?_
  refine va_get (D := (dC, dI)) (ci := 0) (v := .ref (ad 3)) (C := "ClearingBooks") (T := T_B) (N := 12) hx hb hts wi_B hown hK hP 0 rfl rfl 3 (by decide) (hts _ kw_20) (fun _ h9 => h9) rfl d_B_back_30 ?_
  refine lv_iload_n hx hb d_B_back_33 rfl (lv_at hl 2 rfl) ?_
  refine lv_dup2_11 hx hb d_B_back_34 rfl rfl ?_
  refine xa_laload (f := vp_updL po i ((po i) - x)) hx hb hK hP 3 1 rfl rfl (j := j) (by omega) (by decide) d_B_back_35 ?_
  refine lv_lload_n hx hb d_B_back_36 rfl (lv_at hl 3 rfl) ?_
  refine lv_ladd hx hb d_B_back_37 ?_
  refine xa_lastore (f := vp_updL po i ((po i) - x)) (x := ((vp_updL po i ((po i) - x)) j) + x) hx hb hK hP hD hS 3 1 rfl rfl (j := j) (by omega) (by decide) d_B_back_38 (fun H locs hP hD hS => ?_)
  have hP : va_P (dC, dI) vwCl (cb_w ad cI cJ n tc ki ra (vp_updL (vp_updL po i ((po i) - x)) j (((vp_updL po i ((po i) - x)) j) + x)) se bc bs op pr pe pm) H := hP
  have hD : va_D A (cb_w ad cI cJ n tc ki ra (vp_updL (vp_updL po i ((po i) - x)) j (((vp_updL po i ((po i) - x)) j) + x)) se bc bs op pr pe pm) := hD
  refine lv_aload_n hx hb d_B_back_39 rfl (lv_at hl 0 rfl) ?_
  refine va_get (D := (dC, dI)) (ci := 0) (v := .ref (ad 3)) (C := "ClearingBooks") (T := T_B) (N := 12) hx hb hts wi_B hown hK hP 0 rfl rfl 3 (by decide) (hts _ kw_20) (fun _ h9 => h9) rfl d_B_back_40 ?_
  refine lv_iload_n hx hb d_B_back_43 rfl (lv_at hl 1 rfl) ?_
  refine xa_laload (f := vp_updL (vp_updL po i ((po i) - x)) j (((vp_updL po i ((po i) - x)) j) + x)) hx hb hK hP 3 1 rfl rfl (j := i) (by omega) (by decide) d_B_back_44 ?_
  exact W.lret (v := (vp_updL (vp_updL po i ((po i) - x)) j (((vp_updL po i ((po i) - x)) j) + x)) i) hx hb hr (fun t ht hW => ⟨⟨(vp_updL (vp_updL po i ((po i) - x)) j (((vp_updL po i ((po i) - x)) j) + x)) i, (), rfl, rfl, by rw [ht]; exact hP, va_K.moved hW.alike hK, hD⟩, hS.F ht⟩) hS.2.2 d_B_back_45
set_option maxHeartbeats 4000000 in
set_option maxRecDepth 100000 in
theorem c_back_ta (l : Launch) (dC : Nat → ClassId) (dI : Nat → Nat → Nat) (ad : Nat → Nat) (cI cJ : ClassId) (n tc : Nat) (ki ra : Nat → Int32) (po se : Nat → Int64) (bc : Nat → Int32) (bs op : Nat → Int64) (pr pe : Nat → Int32) (pm : Nat → Int64) (a b : Int32) (x : Int64) (hn : n ≤ 15) (hno : ¬ is_k n ki a (nI 1)) (hl0 : l.stackTraces = false) : xt_Met l y_B_back (.code y_B_back b_B_back 5 (some .long) :: wAll) ({ frames := 7, cells := 1, slots := 6, locals := 113 } : Room) (ro_P [.ref (ad 0), .int a, .int b, .long x] (dC, dI) vwCl [(cI, .int), (cJ, .long)] (cb_w ad cI cJ n tc ki ra po se bc bs op pr pe pm) (xc_ok "ClearingBooks" cb_ks)) "java/lang/IllegalArgumentException" 1 6 := by
  refine xt_ofW (cc := b_B_back) (maxL := 5) (ret := (some .long)) (by decide) rfl ?_
  intro p e s m args below meth c s₁ B hml hv
  obtain ⟨rfl, hP, hK, hB⟩ := hv
  have hx := B.exec
  have hb := B.bytes
  have hr := B.returns
  have hts0 := atoms_spec (ws := (.code y_B_back b_B_back 5 (some .long) :: wAll)) B.pre
  have hts := hts_all hts0
  have hown : s.vm.findClass "ClearingBooks" = some m.cls := findClass_of_methodNamed B.named
  have hlocks := B.notSynchronized
  have hnh := B.noHandlers (hts0 _ List.mem_cons_self)
  have hout : ∀ pc9 : Nat, ∀ x ∈ c.exceptionTable.toList, covers x pc9 = false := fun pc9 x hx9 => by rw [xt_nil hnh] at hx9; cases hx9
  have hl := lv_entry ([.ref (ad 0), .int a, .int b, .long x]) (n := 5) (Nat.le_of_ble_eq_true rfl)
  rw [lg_entry_eq]
  generalize (lg_sl ([.ref (ad 0), .int a, .int b, .long x]) ++ List.replicate (5 - (lg_sl ([.ref (ad 0), .int a, .int b, .long x])).length) Slot.unset).toArray = ls at hl ⊢
  have hl : lv_has ls 5 [(0, .ref (ad 0)), (1, .int a), (2, .int b), (3, .long x)] := hl
  refine lv_aload_n hx hb d_B_back_0 rfl (lv_at hl 0 rfl) ?_
  refine lv_iload_n hx hb d_B_back_1 rfl (lv_at hl 1 rfl) ?_
  refine lv_iconst (v := nI 1) hx hb d_B_back_2 (by decide) ?_
  exact xt_pass (xt_runV (As := [.int a, .int (nI 1)]) (rest := []) ⟨hx, hb, hml, hown, hts⟩ (c_requireKind_t l dC dI ad cI cJ n tc ki ra po se bc bs op pr pe pm a (nI 1) hn hno hl0) (cwV 2 hts (wAll_v kw_201 kw_203 ks_7 kw_1 kw_204) rfl rfl rfl (by decide +kernel) ⟨Nat.le_of_ble_eq_true rfl, Nat.le_of_ble_eq_true rfl⟩) (ro_preV bl_xc hK hP (ci := 0) (q0 := 0) rfl rfl (fun U hU hW => xc_moved hB hW (fun q _ => by rw [hU]))) rfl rfl hl.1 rfl (lv_room (Nat.le_of_ble_eq_true rfl)) d_B_back_3 ⟨Nat.le_of_ble_eq_true rfl, Nat.le_of_ble_eq_true rfl⟩) (hout _) hlocks (Nat.le_of_ble_eq_true rfl) (Nat.le_of_ble_eq_true rfl)
set_option maxHeartbeats 4000000 in
set_option maxRecDepth 100000 in
theorem c_back_tb (l : Launch) (dC : Nat → ClassId) (dI : Nat → Nat → Nat) (ad : Nat → Nat) (cI cJ : ClassId) (n tc : Nat) (ki ra : Nat → Int32) (po se : Nat → Int64) (bc : Nat → Int32) (bs op : Nat → Int64) (pr pe : Nat → Int32) (pm : Nat → Int64) (i : Nat) (b : Int32) (x : Int64) (hji : i < n) (hn : n ≤ 15) (hki : ki i = nI 1) (hno : ¬ is_k n ki b (nI 2)) (hl0 : l.stackTraces = false) : xt_Met l y_B_back (.code y_B_back b_B_back 5 (some .long) :: wAll) ({ frames := 7, cells := 1, slots := 6, locals := 113 } : Room) (ro_P [.ref (ad 0), .int (nI i), .int b, .long x] (dC, dI) vwCl [(cI, .int), (cJ, .long)] (cb_w ad cI cJ n tc ki ra po se bc bs op pr pe pm) (xc_ok "ClearingBooks" cb_ks)) "java/lang/IllegalArgumentException" 1 6 := by
  refine xt_ofW (cc := b_B_back) (maxL := 5) (ret := (some .long)) (by decide) rfl ?_
  intro p e s m args below meth c s₁ B hml hv
  obtain ⟨rfl, hP, hK, hB⟩ := hv
  have hx := B.exec
  have hb := B.bytes
  have hr := B.returns
  have hts0 := atoms_spec (ws := (.code y_B_back b_B_back 5 (some .long) :: wAll)) B.pre
  have hts := hts_all hts0
  have hown : s.vm.findClass "ClearingBooks" = some m.cls := findClass_of_methodNamed B.named
  have hlocks := B.notSynchronized
  have hnh := B.noHandlers (hts0 _ List.mem_cons_self)
  have hout : ∀ pc9 : Nat, ∀ x ∈ c.exceptionTable.toList, covers x pc9 = false := fun pc9 x hx9 => by rw [xt_nil hnh] at hx9; cases hx9
  have hl := lv_entry ([.ref (ad 0), .int (nI i), .int b, .long x]) (n := 5) (Nat.le_of_ble_eq_true rfl)
  rw [lg_entry_eq]
  generalize (lg_sl ([.ref (ad 0), .int (nI i), .int b, .long x]) ++ List.replicate (5 - (lg_sl ([.ref (ad 0), .int (nI i), .int b, .long x])).length) Slot.unset).toArray = ls at hl ⊢
  have hl : lv_has ls 5 [(0, .ref (ad 0)), (1, .int (nI i)), (2, .int b), (3, .long x)] := hl
  refine lv_aload_n hx hb d_B_back_0 rfl (lv_at hl 0 rfl) ?_
  refine lv_iload_n hx hb d_B_back_1 rfl (lv_at hl 1 rfl) ?_
  refine lv_iconst (v := nI 1) hx hb d_B_back_2 (by decide) ?_
  refine ro_call (va_runV (As := [.int (nI i), .int (nI 1)]) (rest := []) ⟨hx, hb, hml, hown, hts⟩ (c_requireKind_y l dC dI ad cI cJ n tc ki ra po se bc bs op pr pe pm i (nI 1) hji hn hki) (cwV 2 hts (wAll_v kw_201 kw_203 ks_7 kw_1 kw_204) rfl rfl rfl (by decide +kernel) ⟨Nat.le_of_ble_eq_true rfl, Nat.le_of_ble_eq_true rfl⟩) (ro_preV bl_tt hK hP (ci := 0) (q0 := 0) rfl rfl (fun _ _ _ => trivial)) rfl rfl hl.1 rfl (lv_room (Nat.le_of_ble_eq_true rfl)) d_B_back_3 ⟨Nat.le_of_ble_eq_true rfl, Nat.le_of_ble_eq_true rfl⟩) ?_
  refine W.eq (g2 := F0 m 6 ls []) rfl ?_
  refine lv_aload_n hx hb d_B_back_6 rfl (lv_at hl 0 rfl) ?_
  refine lv_iload_n hx hb d_B_back_7 rfl (lv_at hl 2 rfl) ?_
  refine lv_iconst (v := nI 2) hx hb d_B_back_8 (by decide) ?_
  exact xt_pass (xt_runV (As := [.int b, .int (nI 2)]) (rest := []) ⟨hx, hb, hml, hown, hts⟩ (c_requireKind_t l dC dI ad cI cJ n tc ki ra po se bc bs op pr pe pm b (nI 2) hn hno hl0) (cwV 2 hts (wAll_v kw_201 kw_203 ks_7 kw_1 kw_204) rfl rfl rfl (by decide +kernel) ⟨Nat.le_of_ble_eq_true rfl, Nat.le_of_ble_eq_true rfl⟩) (ro_preV bl_xc hK hP (ci := 0) (q0 := 0) rfl rfl (fun U hU hW => xc_moved hB hW (fun q _ => by rw [hU]))) rfl rfl hl.1 rfl (lv_room (Nat.le_of_ble_eq_true rfl)) d_B_back_9 ⟨Nat.le_of_ble_eq_true rfl, Nat.le_of_ble_eq_true rfl⟩) (hout _) hlocks (Nat.le_of_ble_eq_true rfl) (Nat.le_of_ble_eq_true rfl)
set_option maxHeartbeats 4000000 in
set_option maxRecDepth 100000 in
theorem c_back_tx (l : Launch) (dC : Nat → ClassId) (dI : Nat → Nat → Nat) (ad : Nat → Nat) (cI cJ : ClassId) (n tc : Nat) (ki ra : Nat → Int32) (po se : Nat → Int64) (bc : Nat → Int32) (bs op : Nat → Int64) (pr pe : Nat → Int32) (pm : Nat → Int64) (i j : Nat) (x : Int64) (hji : i < n) (hjj : j < n) (hn : n ≤ 15) (hki : ki i = nI 1) (hkj : ki j = nI 2) (hno : ¬ (¬ x < (-1000000000000) ∧ ¬ 1000000000000 < x)) (hl0 : l.stackTraces = false) : xt_Met l y_B_back (.code y_B_back b_B_back 5 (some .long) :: wAll) ({ frames := 7, cells := 1, slots := 6, locals := 113 } : Room) (ro_P [.ref (ad 0), .int (nI i), .int (nI j), .long x] (dC, dI) vwCl [(cI, .int), (cJ, .long)] (cb_w ad cI cJ n tc ki ra po se bc bs op pr pe pm) (xc_ok "ClearingBooks" cb_ks)) "java/lang/IllegalArgumentException" 1 6 := by
  refine xt_ofW (cc := b_B_back) (maxL := 5) (ret := (some .long)) (by decide) rfl ?_
  intro p e s m args below meth c s₁ B hml hv
  obtain ⟨rfl, hP, hK, hB⟩ := hv
  have hx := B.exec
  have hb := B.bytes
  have hr := B.returns
  have hts0 := atoms_spec (ws := (.code y_B_back b_B_back 5 (some .long) :: wAll)) B.pre
  have hts := hts_all hts0
  have hown : s.vm.findClass "ClearingBooks" = some m.cls := findClass_of_methodNamed B.named
  have hlocks := B.notSynchronized
  have hnh := B.noHandlers (hts0 _ List.mem_cons_self)
  have hout : ∀ pc9 : Nat, ∀ x ∈ c.exceptionTable.toList, covers x pc9 = false := fun pc9 x hx9 => by rw [xt_nil hnh] at hx9; cases hx9
  have hl := lv_entry ([.ref (ad 0), .int (nI i), .int (nI j), .long x]) (n := 5) (Nat.le_of_ble_eq_true rfl)
  rw [lg_entry_eq]
  generalize (lg_sl ([.ref (ad 0), .int (nI i), .int (nI j), .long x]) ++ List.replicate (5 - (lg_sl ([.ref (ad 0), .int (nI i), .int (nI j), .long x])).length) Slot.unset).toArray = ls at hl ⊢
  have hl : lv_has ls 5 [(0, .ref (ad 0)), (1, .int (nI i)), (2, .int (nI j)), (3, .long x)] := hl
  refine lv_aload_n hx hb d_B_back_0 rfl (lv_at hl 0 rfl) ?_
  refine lv_iload_n hx hb d_B_back_1 rfl (lv_at hl 1 rfl) ?_
  refine lv_iconst (v := nI 1) hx hb d_B_back_2 (by decide) ?_
  refine ro_call (va_runV (As := [.int (nI i), .int (nI 1)]) (rest := []) ⟨hx, hb, hml, hown, hts⟩ (c_requireKind_y l dC dI ad cI cJ n tc ki ra po se bc bs op pr pe pm i (nI 1) hji hn hki) (cwV 2 hts (wAll_v kw_201 kw_203 ks_7 kw_1 kw_204) rfl rfl rfl (by decide +kernel) ⟨Nat.le_of_ble_eq_true rfl, Nat.le_of_ble_eq_true rfl⟩) (ro_preV bl_tt hK hP (ci := 0) (q0 := 0) rfl rfl (fun _ _ _ => trivial)) rfl rfl hl.1 rfl (lv_room (Nat.le_of_ble_eq_true rfl)) d_B_back_3 ⟨Nat.le_of_ble_eq_true rfl, Nat.le_of_ble_eq_true rfl⟩) ?_
  refine W.eq (g2 := F0 m 6 ls []) rfl ?_
  refine lv_aload_n hx hb d_B_back_6 rfl (lv_at hl 0 rfl) ?_
  refine lv_iload_n hx hb d_B_back_7 rfl (lv_at hl 2 rfl) ?_
  refine lv_iconst (v := nI 2) hx hb d_B_back_8 (by decide) ?_
  refine ro_call (va_runV (As := [.int (nI j), .int (nI 2)]) (rest := []) ⟨hx, hb, hml, hown, hts⟩ (c_requireKind_y l dC dI ad cI cJ n tc ki ra po se bc bs op pr pe pm j (nI 2) hjj hn hkj) (cwV 2 hts (wAll_v kw_201 kw_203 ks_7 kw_1 kw_204) rfl rfl rfl (by decide +kernel) ⟨Nat.le_of_ble_eq_true rfl, Nat.le_of_ble_eq_true rfl⟩) (ro_preV bl_tt hK hP (ci := 0) (q0 := 0) rfl rfl (fun _ _ _ => trivial)) rfl rfl hl.1 rfl (lv_room (Nat.le_of_ble_eq_true rfl)) d_B_back_9 ⟨Nat.le_of_ble_eq_true rfl, Nat.le_of_ble_eq_true rfl⟩) ?_
  refine W.eq (g2 := F0 m 12 ls []) rfl ?_
  refine lv_lload_n hx hb d_B_back_12 rfl (lv_at hl 3 rfl) ?_
  refine lv_ldc2 (v := (-1000000000000)) hx hb hown (hts _ kw_229) d_B_back_13 ?_
  exact xt_pass (xt_runS (As := [.long x, .long ((-1000000000000))]) (rest := []) ⟨hx, hb, hml, hown, hts⟩ (c_requireAmount_t l dC dI ad cI cJ n tc ki ra po se bc bs op pr pe pm x ((-1000000000000)) hno hl0) (cwS 2 hts (wAll_s kw_210 kw_211 kw_1 kw_212) rfl rfl rfl (by decide +kernel) ⟨Nat.le_of_ble_eq_true rfl, Nat.le_of_ble_eq_true rfl⟩) (ro_preS bl_xc hK hP (fun U hU hW => xc_moved hB hW (fun q _ => by rw [hU]))) rfl rfl hl.1 rfl (lv_room (Nat.le_of_ble_eq_true rfl)) d_B_back_16 ⟨Nat.le_of_ble_eq_true rfl, Nat.le_of_ble_eq_true rfl⟩) (hout _) hlocks (Nat.le_of_ble_eq_true rfl) (Nat.le_of_ble_eq_true rfl)
set_option maxHeartbeats 4000000 in
set_option maxRecDepth 100000 in
theorem c_reconcile_y (l : Launch) (dC : Nat → ClassId) (dI : Nat → Nat → Nat) (ad : Nat → Nat) (cI cJ : ClassId) (n tc : Nat) (ki ra : Nat → Int32) (po se : Nat → Int64) (bc : Nat → Int32) (bs op : Nat → Int64) (pr pe : Nat → Int32) (pm : Nat → Int64) (sz : Nat) (i : Nat) (k : Int32) (x : Int64) (hji : i < n) (hn : n ≤ 15) (hki : ki i = nI 1) (hy : bc i = k ∧ bs i = x) : Met l y_B_reconcile (.code y_B_reconcile b_B_reconcile 5 (some .boolean) :: wAll) ({ frames := 2, cells := 0, slots := 0, locals := 43 } : Room) (mu_P [.ref (ad 0), .int (nI i), .int k, .long x] (dC, dI) vwCl [(cI, .int), (cJ, .long)] (cb_w ad cI cJ n tc ki ra po se bc bs op pr pe pm) sz) (va_Qi (fun (z : Int32) (_ : Unit) => z = nI 1) (mu_B (dC, dI) vwCl [(cI, .int), (cJ, .long)] (va_A (cb_w ad cI cJ n tc ki ra po se bc bs op pr pe pm) sz) (cb_w ad cI cJ n tc ki ra po se (upd bc i (nI 0)) (vp_updL bs i 0) op pr pe pm)) (va_A (cb_w ad cI cJ n tc ki ra po se bc bs op pr pe pm) sz)) 0 0 (va_A (cb_w ad cI cJ n tc ki ra po se bc bs op pr pe pm) sz) := by
  refine Met.ofW (cc := b_B_reconcile) (maxL := 5) (ret := (some .boolean)) (by decide) rfl ?_
  intro p e s m args below meth c s₁ B hml hv
  obtain ⟨rfl, hsz, hP, hK, hD0⟩ := hv
  have hx := B.exec
  have hb := B.bytes
  have hr := B.returns
  have hts0 := atoms_spec (ws := (.code y_B_reconcile b_B_reconcile 5 (some .boolean) :: wAll)) B.pre
  have hts := hts_all hts0
  have hown : s.vm.findClass "ClearingBooks" = some m.cls := findClass_of_methodNamed B.named
  have hlocks := B.notSynchronized
  subst hsz
  have hD := hD0.self (sz := s.heap.size)
  generalize hAe : va_A (cb_w ad cI cJ n tc ki ra po se bc bs op pr pe pm) s.heap.size = A at hD ⊢
  have hA : ∀ q : Nat, s.heap.size ≤ q → A q := fun q h => by rw [← hAe]; exact Or.inr h
  have hS : va_S A s.heap s.heap [] := va_S.rf
  have hl := lv_entry ([.ref (ad 0), .int (nI i), .int k, .long x]) (n := 5) (Nat.le_of_ble_eq_true rfl)
  rw [lg_entry_eq]
  generalize (lg_sl ([.ref (ad 0), .int (nI i), .int k, .long x]) ++ List.replicate (5 - (lg_sl ([.ref (ad 0), .int (nI i), .int k, .long x])).length) Slot.unset).toArray = ls at hl ⊢
  have hl : lv_has ls 5 [(0, .ref (ad 0)), (1, .int (nI i)), (2, .int k), (3, .long x)] := hl
  refine lv_aload_n hx hb d_B_reconcile_0 rfl (lv_at hl 0 rfl) ?_
  refine lv_iload_n hx hb d_B_reconcile_1 rfl (lv_at hl 1 rfl) ?_
  refine lv_iconst (v := nI 1) hx hb d_B_reconcile_2 (by decide) ?_
  refine ro_call (va_runV (As := [.int (nI i), .int (nI 1)]) (rest := []) ⟨hx, hb, hml, hown, hts⟩ (c_requireKind_y l dC dI ad cI cJ n tc ki ra po se bc bs op pr pe pm i (nI 1) hji hn hki) (cwV 2 hts (wAll_v kw_201 kw_203 ks_7 kw_1 kw_204) rfl rfl rfl (by decide +kernel) ⟨Nat.le_of_ble_eq_true rfl, Nat.le_of_ble_eq_true rfl⟩) (ro_preV bl_tt hK hP (ci := 0) (q0 := 0) rfl rfl (fun _ _ _ => trivial)) rfl rfl hl.1 rfl (lv_room (Nat.le_of_ble_eq_true rfl)) d_B_reconcile_3 ⟨Nat.le_of_ble_eq_true rfl, Nat.le_of_ble_eq_true rfl⟩) ?_
  refine W.eq (g2 := F0 m 6 ls []) rfl ?_
  refine lv_aload_n hx hb d_B_reconcile_6 rfl (lv_at hl 0 rfl) ?_
  refine va_get (D := (dC, dI)) (ci := 0) (v := .ref (ad 5)) (C := "ClearingBooks") (T := T_B) (N := 12) hx hb hts wi_B hown hK hP 0 rfl rfl 5 (by decide) (hts _ kw_22) (fun _ h9 => h9) rfl d_B_reconcile_7 ?_
  refine lv_iload_n hx hb d_B_reconcile_10 rfl (lv_at hl 1 rfl) ?_
  refine xa_iaload (f := bc) hx hb hK hP 5 0 rfl rfl (j := i) (by omega) (by decide) d_B_reconcile_11 ?_
  refine lv_iload_n hx hb d_B_reconcile_12 rfl (lv_at hl 2 rfl) ?_
  refine lv_icmp_ne (tgt := 27) hx hb d_B_reconcile_13 (by decide) (fun c1 => ?_) (fun c1 => ?_)
  · exact absurd hy.1 c1
  · refine lv_aload_n hx hb d_B_reconcile_16 rfl (lv_at hl 0 rfl) ?_
    refine va_get (D := (dC, dI)) (ci := 0) (v := .ref (ad 6)) (C := "ClearingBooks") (T := T_B) (N := 12) hx hb hts wi_B hown hK hP 0 rfl rfl 6 (by decide) (hts _ kw_23) (fun _ h9 => h9) rfl d_B_reconcile_17 ?_
    refine lv_iload_n hx hb d_B_reconcile_20 rfl (lv_at hl 1 rfl) ?_
    refine xa_laload (f := bs) hx hb hK hP 6 1 rfl rfl (j := i) (by omega) (by decide) d_B_reconcile_21 ?_
    refine lv_lload_n hx hb d_B_reconcile_22 rfl (lv_at hl 3 rfl) ?_
    refine W.lcmp hx hb d_B_reconcile_23 ?_
    refine lv_if_eq (tgt := 29) hx hb d_B_reconcile_24 (by decide) (fun c2 => ?_) (fun c2 => ?_)
    · replace c2 := (lg_cmp_eq _ _).mp c2
      refine lv_aload_n hx hb d_B_reconcile_29 rfl (lv_at hl 0 rfl) ?_
      refine va_get (D := (dC, dI)) (ci := 0) (v := .ref (ad 5)) (C := "ClearingBooks") (T := T_B) (N := 12) hx hb hts wi_B hown hK hP 0 rfl rfl 5 (by decide) (hts _ kw_22) (fun _ h9 => h9) rfl d_B_reconcile_30 ?_
      refine lv_iload_n hx hb d_B_reconcile_33 rfl (lv_at hl 1 rfl) ?_
      refine lv_iconst (v := nI 0) hx hb d_B_reconcile_34 (by decide) ?_
      refine xa_iastore (f := bc) (x := nI 0) hx hb hK hP hD hS 5 0 rfl rfl (j := i) (by omega) (by decide) d_B_reconcile_35 (fun H locs hP hD hS => ?_)
      have hP : va_P (dC, dI) vwCl (cb_w ad cI cJ n tc ki ra po se (upd bc i (nI 0)) bs op pr pe pm) H := hP
      have hD : va_D A (cb_w ad cI cJ n tc ki ra po se (upd bc i (nI 0)) bs op pr pe pm) := hD
      refine lv_aload_n hx hb d_B_reconcile_36 rfl (lv_at hl 0 rfl) ?_
      refine va_get (D := (dC, dI)) (ci := 0) (v := .ref (ad 6)) (C := "ClearingBooks") (T := T_B) (N := 12) hx hb hts wi_B hown hK hP 0 rfl rfl 6 (by decide) (hts _ kw_23) (fun _ h9 => h9) rfl d_B_reconcile_37 ?_
      refine lv_iload_n hx hb d_B_reconcile_40 rfl (lv_at hl 1 rfl) ?_
      refine lv_lconst (v := 0) hx hb d_B_reconcile_41 (by decide) ?_
      refine xa_lastore (f := bs) (x := 0) hx hb hK hP hD hS 6 1 rfl rfl (j := i) (by omega) (by decide) d_B_reconcile_42 (fun H locs hP hD hS => ?_)
      have hP : va_P (dC, dI) vwCl (cb_w ad cI cJ n tc ki ra po se (upd bc i (nI 0)) (vp_updL bs i 0) op pr pe pm) H := hP
      have hD : va_D A (cb_w ad cI cJ n tc ki ra po se (upd bc i (nI 0)) (vp_updL bs i 0) op pr pe pm) := hD
      refine lv_iconst (v := nI 1) hx hb d_B_reconcile_43 (by decide) ?_
      exact W.zret (v := nI 1) hx hb hr rfl (fun t ht hW => ⟨⟨nI 1, (), rfl, rfl, by rw [ht]; exact hP, va_K.moved hW.alike hK, hD⟩, hS.F ht⟩) hS.2.2 d_B_reconcile_44
    · replace c2 := mt (lg_cmp_eq _ _).mpr c2
      exact absurd hy.2 c2
set_option maxHeartbeats 4000000 in
set_option maxRecDepth 100000 in
theorem c_reconcile_n (l : Launch) (dC : Nat → ClassId) (dI : Nat → Nat → Nat) (ad : Nat → Nat) (cI cJ : ClassId) (n tc : Nat) (ki ra : Nat → Int32) (po se : Nat → Int64) (bc : Nat → Int32) (bs op : Nat → Int64) (pr pe : Nat → Int32) (pm : Nat → Int64) (sz : Nat) (i : Nat) (k : Int32) (x : Int64) (hji : i < n) (hn : n ≤ 15) (hki : ki i = nI 1) (hy : ¬ (bc i = k ∧ bs i = x)) : Met l y_B_reconcile (.code y_B_reconcile b_B_reconcile 5 (some .boolean) :: wAll) ({ frames := 2, cells := 0, slots := 0, locals := 43 } : Room) (mu_P [.ref (ad 0), .int (nI i), .int k, .long x] (dC, dI) vwCl [(cI, .int), (cJ, .long)] (cb_w ad cI cJ n tc ki ra po se bc bs op pr pe pm) sz) (va_Qi (fun (z : Int32) (_ : Unit) => z = nI 0) (mu_B (dC, dI) vwCl [(cI, .int), (cJ, .long)] (va_A (cb_w ad cI cJ n tc ki ra po se bc bs op pr pe pm) sz) (cb_w ad cI cJ n tc ki ra po se bc bs op pr pe pm)) (va_A (cb_w ad cI cJ n tc ki ra po se bc bs op pr pe pm) sz)) 0 0 (va_A (cb_w ad cI cJ n tc ki ra po se bc bs op pr pe pm) sz) := by
  refine Met.ofW (cc := b_B_reconcile) (maxL := 5) (ret := (some .boolean)) (by decide) rfl ?_
  intro p e s m args below meth c s₁ B hml hv
  obtain ⟨rfl, hsz, hP, hK, hD0⟩ := hv
  have hx := B.exec
  have hb := B.bytes
  have hr := B.returns
  have hts0 := atoms_spec (ws := (.code y_B_reconcile b_B_reconcile 5 (some .boolean) :: wAll)) B.pre
  have hts := hts_all hts0
  have hown : s.vm.findClass "ClearingBooks" = some m.cls := findClass_of_methodNamed B.named
  have hlocks := B.notSynchronized
  subst hsz
  have hD := hD0.self (sz := s.heap.size)
  generalize hAe : va_A (cb_w ad cI cJ n tc ki ra po se bc bs op pr pe pm) s.heap.size = A at hD ⊢
  have hA : ∀ q : Nat, s.heap.size ≤ q → A q := fun q h => by rw [← hAe]; exact Or.inr h
  have hS : va_S A s.heap s.heap [] := va_S.rf
  have hl := lv_entry ([.ref (ad 0), .int (nI i), .int k, .long x]) (n := 5) (Nat.le_of_ble_eq_true rfl)
  rw [lg_entry_eq]
  generalize (lg_sl ([.ref (ad 0), .int (nI i), .int k, .long x]) ++ List.replicate (5 - (lg_sl ([.ref (ad 0), .int (nI i), .int k, .long x])).length) Slot.unset).toArray = ls at hl ⊢
  have hl : lv_has ls 5 [(0, .ref (ad 0)), (1, .int (nI i)), (2, .int k), (3, .long x)] := hl
  refine lv_aload_n hx hb d_B_reconcile_0 rfl (lv_at hl 0 rfl) ?_
  refine lv_iload_n hx hb d_B_reconcile_1 rfl (lv_at hl 1 rfl) ?_
  refine lv_iconst (v := nI 1) hx hb d_B_reconcile_2 (by decide) ?_
  refine ro_call (va_runV (As := [.int (nI i), .int (nI 1)]) (rest := []) ⟨hx, hb, hml, hown, hts⟩ (c_requireKind_y l dC dI ad cI cJ n tc ki ra po se bc bs op pr pe pm i (nI 1) hji hn hki) (cwV 2 hts (wAll_v kw_201 kw_203 ks_7 kw_1 kw_204) rfl rfl rfl (by decide +kernel) ⟨Nat.le_of_ble_eq_true rfl, Nat.le_of_ble_eq_true rfl⟩) (ro_preV bl_tt hK hP (ci := 0) (q0 := 0) rfl rfl (fun _ _ _ => trivial)) rfl rfl hl.1 rfl (lv_room (Nat.le_of_ble_eq_true rfl)) d_B_reconcile_3 ⟨Nat.le_of_ble_eq_true rfl, Nat.le_of_ble_eq_true rfl⟩) ?_
  refine W.eq (g2 := F0 m 6 ls []) rfl ?_
  refine lv_aload_n hx hb d_B_reconcile_6 rfl (lv_at hl 0 rfl) ?_
  refine va_get (D := (dC, dI)) (ci := 0) (v := .ref (ad 5)) (C := "ClearingBooks") (T := T_B) (N := 12) hx hb hts wi_B hown hK hP 0 rfl rfl 5 (by decide) (hts _ kw_22) (fun _ h9 => h9) rfl d_B_reconcile_7 ?_
  refine lv_iload_n hx hb d_B_reconcile_10 rfl (lv_at hl 1 rfl) ?_
  refine xa_iaload (f := bc) hx hb hK hP 5 0 rfl rfl (j := i) (by omega) (by decide) d_B_reconcile_11 ?_
  refine lv_iload_n hx hb d_B_reconcile_12 rfl (lv_at hl 2 rfl) ?_
  refine lv_icmp_ne (tgt := 27) hx hb d_B_reconcile_13 (by decide) (fun c1 => ?_) (fun c1 => ?_)
  · refine lv_iconst (v := nI 0) hx hb d_B_reconcile_27 (by decide) ?_
    exact W.zret (v := nI 0) hx hb hr rfl (fun t ht hW => ⟨⟨nI 0, (), rfl, rfl, by rw [ht]; exact hP, va_K.moved hW.alike hK, hD⟩, hS.F ht⟩) hS.2.2 d_B_reconcile_28
  · refine lv_aload_n hx hb d_B_reconcile_16 rfl (lv_at hl 0 rfl) ?_
    refine va_get (D := (dC, dI)) (ci := 0) (v := .ref (ad 6)) (C := "ClearingBooks") (T := T_B) (N := 12) hx hb hts wi_B hown hK hP 0 rfl rfl 6 (by decide) (hts _ kw_23) (fun _ h9 => h9) rfl d_B_reconcile_17 ?_
    refine lv_iload_n hx hb d_B_reconcile_20 rfl (lv_at hl 1 rfl) ?_
    refine xa_laload (f := bs) hx hb hK hP 6 1 rfl rfl (j := i) (by omega) (by decide) d_B_reconcile_21 ?_
    refine lv_lload_n hx hb d_B_reconcile_22 rfl (lv_at hl 3 rfl) ?_
    refine W.lcmp hx hb d_B_reconcile_23 ?_
    refine lv_if_eq (tgt := 29) hx hb d_B_reconcile_24 (by decide) (fun c2 => ?_) (fun c2 => ?_)
    · replace c2 := (lg_cmp_eq _ _).mp c2
      exact absurd ⟨c1, c2⟩ hy
    · replace c2 := mt (lg_cmp_eq _ _).mpr c2
      refine lv_iconst (v := nI 0) hx hb d_B_reconcile_27 (by decide) ?_
      exact W.zret (v := nI 0) hx hb hr rfl (fun t ht hW => ⟨⟨nI 0, (), rfl, rfl, by rw [ht]; exact hP, va_K.moved hW.alike hK, hD⟩, hS.F ht⟩) hS.2.2 d_B_reconcile_28
set_option maxHeartbeats 4000000 in
set_option maxRecDepth 100000 in
theorem c_reconcile_t (l : Launch) (dC : Nat → ClassId) (dI : Nat → Nat → Nat) (ad : Nat → Nat) (cI cJ : ClassId) (n tc : Nat) (ki ra : Nat → Int32) (po se : Nat → Int64) (bc : Nat → Int32) (bs op : Nat → Int64) (pr pe : Nat → Int32) (pm : Nat → Int64) (a k : Int32) (x : Int64) (hn : n ≤ 15) (hno : ¬ is_k n ki a (nI 1)) (hl0 : l.stackTraces = false) : xt_Met l y_B_reconcile (.code y_B_reconcile b_B_reconcile 5 (some .boolean) :: wAll) ({ frames := 7, cells := 1, slots := 6, locals := 112 } : Room) (ro_P [.ref (ad 0), .int a, .int k, .long x] (dC, dI) vwCl [(cI, .int), (cJ, .long)] (cb_w ad cI cJ n tc ki ra po se bc bs op pr pe pm) (xc_ok "ClearingBooks" cb_ks)) "java/lang/IllegalArgumentException" 1 6 := by
  refine xt_ofW (cc := b_B_reconcile) (maxL := 5) (ret := (some .boolean)) (by decide) rfl ?_
  intro p e s m args below meth c s₁ B hml hv
  obtain ⟨rfl, hP, hK, hB⟩ := hv
  have hx := B.exec
  have hb := B.bytes
  have hr := B.returns
  have hts0 := atoms_spec (ws := (.code y_B_reconcile b_B_reconcile 5 (some .boolean) :: wAll)) B.pre
  have hts := hts_all hts0
  have hown : s.vm.findClass "ClearingBooks" = some m.cls := findClass_of_methodNamed B.named
  have hlocks := B.notSynchronized
  have hnh := B.noHandlers (hts0 _ List.mem_cons_self)
  have hout : ∀ pc9 : Nat, ∀ x ∈ c.exceptionTable.toList, covers x pc9 = false := fun pc9 x hx9 => by rw [xt_nil hnh] at hx9; cases hx9
  have hl := lv_entry ([.ref (ad 0), .int a, .int k, .long x]) (n := 5) (Nat.le_of_ble_eq_true rfl)
  rw [lg_entry_eq]
  generalize (lg_sl ([.ref (ad 0), .int a, .int k, .long x]) ++ List.replicate (5 - (lg_sl ([.ref (ad 0), .int a, .int k, .long x])).length) Slot.unset).toArray = ls at hl ⊢
  have hl : lv_has ls 5 [(0, .ref (ad 0)), (1, .int a), (2, .int k), (3, .long x)] := hl
  refine lv_aload_n hx hb d_B_reconcile_0 rfl (lv_at hl 0 rfl) ?_
  refine lv_iload_n hx hb d_B_reconcile_1 rfl (lv_at hl 1 rfl) ?_
  refine lv_iconst (v := nI 1) hx hb d_B_reconcile_2 (by decide) ?_
  exact xt_pass (xt_runV (As := [.int a, .int (nI 1)]) (rest := []) ⟨hx, hb, hml, hown, hts⟩ (c_requireKind_t l dC dI ad cI cJ n tc ki ra po se bc bs op pr pe pm a (nI 1) hn hno hl0) (cwV 2 hts (wAll_v kw_201 kw_203 ks_7 kw_1 kw_204) rfl rfl rfl (by decide +kernel) ⟨Nat.le_of_ble_eq_true rfl, Nat.le_of_ble_eq_true rfl⟩) (ro_preV bl_xc hK hP (ci := 0) (q0 := 0) rfl rfl (fun U hU hW => xc_moved hB hW (fun q _ => by rw [hU]))) rfl rfl hl.1 rfl (lv_room (Nat.le_of_ble_eq_true rfl)) d_B_reconcile_3 ⟨Nat.le_of_ble_eq_true rfl, Nat.le_of_ble_eq_true rfl⟩) (hout _) hlocks (Nat.le_of_ble_eq_true rfl) (Nat.le_of_ble_eq_true rfl)
set_option maxHeartbeats 4000000 in
set_option maxRecDepth 100000 in
theorem c_makeTransfer (l : Launch) (dC : Nat → ClassId) (dI : Nat → Nat → Nat) (ad : Nat → Nat) (cI cJ : ClassId) (n tc : Nat) (ki ra : Nat → Int32) (po se : Nat → Int64) (bc : Nat → Int32) (bs op : Nat → Int64) (pr pe : Nat → Int32) (pm : Nat → Int64) (sz : Nat) (i j : Nat) (hi : i < n) (hj : j < n) (hn : n ≤ 15) (htc : tc < 14) : Met l y_B_makeTransfer (.code y_B_makeTransfer b_B_makeTransfer 5 none :: wAll) ({ frames := 1, cells := 0, slots := 0, locals := 23 } : Room) (mu_P [.ref (ad 0), .int (nI i), .int (nI j)] (dC, dI) vwCl [(cI, .int), (cJ, .long)] (cb_w ad cI cJ n tc ki ra po se bc bs op pr pe pm) sz) (va_Qv (fun _ : Unit => True) (mu_B (dC, dI) vwCl [(cI, .int), (cJ, .long)] (va_A (cb_w ad cI cJ n tc ki ra po se bc bs op pr pe pm) sz) (cb_w ad cI cJ n (tc + 1) ki ra po se bc bs (aft op i j) (upd pr tc (nI i)) (upd pe tc (nI j)) (vp_updL pm tc (pay op i j)))) (va_A (cb_w ad cI cJ n tc ki ra po se bc bs op pr pe pm) sz)) 0 0 (va_A (cb_w ad cI cJ n tc ki ra po se bc bs op pr pe pm) sz) := by
  refine Met.ofW (cc := b_B_makeTransfer) (maxL := 5) (ret := none) (by decide) rfl ?_
  intro p e s m args below meth c s₁ B hml hv
  obtain ⟨rfl, hsz, hP, hK, hD0⟩ := hv
  have hx := B.exec
  have hb := B.bytes
  have hr := B.returns
  have hts0 := atoms_spec (ws := (.code y_B_makeTransfer b_B_makeTransfer 5 none :: wAll)) B.pre
  have hts := hts_all hts0
  have hown : s.vm.findClass "ClearingBooks" = some m.cls := findClass_of_methodNamed B.named
  have hlocks := B.notSynchronized
  subst hsz
  have hD := hD0.self (sz := s.heap.size)
  generalize hAe : va_A (cb_w ad cI cJ n tc ki ra po se bc bs op pr pe pm) s.heap.size = A at hD ⊢
  have hA : ∀ q : Nat, s.heap.size ≤ q → A q := fun q h => by rw [← hAe]; exact Or.inr h
  have hS : va_S A s.heap s.heap [] := va_S.rf
  have hl := lv_entry ([.ref (ad 0), .int (nI i), .int (nI j)]) (n := 5) (Nat.le_of_ble_eq_true rfl)
  rw [lg_entry_eq]
  generalize (lg_sl ([.ref (ad 0), .int (nI i), .int (nI j)]) ++ List.replicate (5 - (lg_sl ([.ref (ad 0), .int (nI i), .int (nI j)])).length) Slot.unset).toArray = ls at hl ⊢
  have hl : lv_has ls 5 [(0, .ref (ad 0)), (1, .int (nI i)), (2, .int (nI j))] := hl
  refine lv_aload_n hx hb d_B_makeTransfer_0 rfl (lv_at hl 0 rfl) ?_
  refine va_get (D := (dC, dI)) (ci := 0) (v := .ref (ad 7)) (C := "ClearingBooks") (T := T_B) (N := 12) hx hb hts wi_B hown hK hP 0 rfl rfl 7 (by decide) (hts _ kw_24) (fun _ h9 => h9) rfl d_B_makeTransfer_1 ?_
  refine lv_iload_n hx hb d_B_makeTransfer_4 rfl (lv_at hl 1 rfl) ?_
  refine xa_laload (f := op) hx hb hK hP 7 1 rfl rfl (j := i) (by omega) (by decide) d_B_makeTransfer_5 ?_
  refine lv_lneg hx hb d_B_makeTransfer_6 ?_
  refine lv_aload_n hx hb d_B_makeTransfer_7 rfl (lv_at hl 0 rfl) ?_
  refine va_get (D := (dC, dI)) (ci := 0) (v := .ref (ad 7)) (C := "ClearingBooks") (T := T_B) (N := 12) hx hb hts wi_B hown hK hP 0 rfl rfl 7 (by decide) (hts _ kw_24) (fun _ h9 => h9) rfl d_B_makeTransfer_8 ?_
  refine lv_iload_n hx hb d_B_makeTransfer_11 rfl (lv_at hl 2 rfl) ?_
  refine xa_laload (f := op) hx hb hK hP 7 1 rfl rfl (j := j) (by omega) (by decide) d_B_makeTransfer_12 ?_
  refine va_mmin_long hx hb (by rw [hml]; exact hl.1.symm) hown (hts _ kw_76) (hts _ kw_77) (hts _ kw_8) (hts _ kw_78) (Nat.le_of_ble_eq_true rfl) (Nat.le_of_ble_eq_true rfl) (Nat.le_of_ble_eq_true rfl) (Nat.le_of_ble_eq_true rfl) d_B_makeTransfer_13 ?_
  refine W.eq (g2 := F0 m 16 ls [.long (pay op i j)]) rfl ?_
  refine lv_lstore_n (lv' := [(3, .long (pay op i j)), (0, .ref (ad 0)), (1, .int (nI i)), (2, .int (nI j))]) hx hb d_B_makeTransfer_16 rfl hl (by decide) rfl (fun ls hl => ?_)
  refine lv_aload_n hx hb d_B_makeTransfer_17 rfl (lv_at hl 1 rfl) ?_
  refine va_get (D := (dC, dI)) (ci := 0) (v := .ref (ad 7)) (C := "ClearingBooks") (T := T_B) (N := 12) hx hb hts wi_B hown hK hP 0 rfl rfl 7 (by decide) (hts _ kw_24) (fun _ h9 => h9) rfl d_B_makeTransfer_18 ?_
  refine lv_iload_n hx hb d_B_makeTransfer_21 rfl (lv_at hl 2 rfl) ?_
  refine lv_dup2_11 hx hb d_B_makeTransfer_22 rfl rfl ?_
  refine xa_laload (f := op) hx hb hK hP 7 1 rfl rfl (j := i) (by omega) (by decide) d_B_makeTransfer_23 ?_
  refine lv_lload_n hx hb d_B_makeTransfer_24 rfl (lv_at hl 0 rfl) ?_
  refine lv_ladd hx hb d_B_makeTransfer_25 ?_
  refine xa_lastore (f := op) (x := (op i) + (pay op i j)) hx hb hK hP hD hS 7 1 rfl rfl (j := i) (by omega) (by decide) d_B_makeTransfer_26 (fun H locs hP hD hS => ?_)
  have hP : va_P (dC, dI) vwCl (cb_w ad cI cJ n tc ki ra po se bc bs (vp_updL op i ((op i) + (pay op i j))) pr pe pm) H := hP
  have hD : va_D A (cb_w ad cI cJ n tc ki ra po se bc bs (vp_updL op i ((op i) + (pay op i j))) pr pe pm) := hD
  refine lv_aload_n hx hb d_B_makeTransfer_27 rfl (lv_at hl 1 rfl) ?_
  refine va_get (D := (dC, dI)) (ci := 0) (v := .ref (ad 7)) (C := "ClearingBooks") (T := T_B) (N := 12) hx hb hts wi_B hown hK hP 0 rfl rfl 7 (by decide) (hts _ kw_24) (fun _ h9 => h9) rfl d_B_makeTransfer_28 ?_
  refine lv_iload_n hx hb d_B_makeTransfer_31 rfl (lv_at hl 3 rfl) ?_
  refine lv_dup2_11 hx hb d_B_makeTransfer_32 rfl rfl ?_
  refine xa_laload (f := vp_updL op i ((op i) + (pay op i j))) hx hb hK hP 7 1 rfl rfl (j := j) (by omega) (by decide) d_B_makeTransfer_33 ?_
  refine lv_lload_n hx hb d_B_makeTransfer_34 rfl (lv_at hl 0 rfl) ?_
  refine lv_lsub hx hb d_B_makeTransfer_35 ?_
  refine xa_lastore (f := vp_updL op i ((op i) + (pay op i j))) (x := ((vp_updL op i ((op i) + (pay op i j))) j) - (pay op i j)) hx hb hK hP hD hS 7 1 rfl rfl (j := j) (by omega) (by decide) d_B_makeTransfer_36 (fun H locs hP hD hS => ?_)
  have hP : va_P (dC, dI) vwCl (cb_w ad cI cJ n tc ki ra po se bc bs (vp_updL (vp_updL op i ((op i) + (pay op i j))) j (((vp_updL op i ((op i) + (pay op i j))) j) - (pay op i j))) pr pe pm) H := hP
  have hD : va_D A (cb_w ad cI cJ n tc ki ra po se bc bs (vp_updL (vp_updL op i ((op i) + (pay op i j))) j (((vp_updL op i ((op i) + (pay op i j))) j) - (pay op i j))) pr pe pm) := hD
  refine lv_aload_n hx hb d_B_makeTransfer_37 rfl (lv_at hl 1 rfl) ?_
  refine va_get (D := (dC, dI)) (ci := 0) (v := .ref (ad 8)) (C := "ClearingBooks") (T := T_B) (N := 12) hx hb hts wi_B hown hK hP 0 rfl rfl 9 (by decide) (hts _ kw_26) (fun _ h9 => h9) rfl d_B_makeTransfer_38 ?_
  refine lv_aload_n hx hb d_B_makeTransfer_41 rfl (lv_at hl 1 rfl) ?_
  refine va_get (D := (dC, dI)) (ci := 0) (v := .int (nI tc)) (C := "ClearingBooks") (T := T_B) (N := 12) hx hb hts wi_B hown hK hP 0 rfl rfl 8 (by decide) (hts _ kw_25) (fun _ h9 => h9) rfl d_B_makeTransfer_42 ?_
  refine lv_iload_n hx hb d_B_makeTransfer_45 rfl (lv_at hl 2 rfl) ?_
  refine xa_iastore (f := pr) (x := nI i) hx hb hK hP hD hS 8 0 rfl rfl (j := tc) (by omega) (by decide) d_B_makeTransfer_46 (fun H locs hP hD hS => ?_)
  have hP : va_P (dC, dI) vwCl (cb_w ad cI cJ n tc ki ra po se bc bs (vp_updL (vp_updL op i ((op i) + (pay op i j))) j (((vp_updL op i ((op i) + (pay op i j))) j) - (pay op i j))) (upd pr tc (nI i)) pe pm) H := hP
  have hD : va_D A (cb_w ad cI cJ n tc ki ra po se bc bs (vp_updL (vp_updL op i ((op i) + (pay op i j))) j (((vp_updL op i ((op i) + (pay op i j))) j) - (pay op i j))) (upd pr tc (nI i)) pe pm) := hD
  refine lv_aload_n hx hb d_B_makeTransfer_47 rfl (lv_at hl 1 rfl) ?_
  refine va_get (D := (dC, dI)) (ci := 0) (v := .ref (ad 9)) (C := "ClearingBooks") (T := T_B) (N := 12) hx hb hts wi_B hown hK hP 0 rfl rfl 10 (by decide) (hts _ kw_27) (fun _ h9 => h9) rfl d_B_makeTransfer_48 ?_
  refine lv_aload_n hx hb d_B_makeTransfer_51 rfl (lv_at hl 1 rfl) ?_
  refine va_get (D := (dC, dI)) (ci := 0) (v := .int (nI tc)) (C := "ClearingBooks") (T := T_B) (N := 12) hx hb hts wi_B hown hK hP 0 rfl rfl 8 (by decide) (hts _ kw_25) (fun _ h9 => h9) rfl d_B_makeTransfer_52 ?_
  refine lv_iload_n hx hb d_B_makeTransfer_55 rfl (lv_at hl 3 rfl) ?_
  refine xa_iastore (f := pe) (x := nI j) hx hb hK hP hD hS 9 0 rfl rfl (j := tc) (by omega) (by decide) d_B_makeTransfer_56 (fun H locs hP hD hS => ?_)
  have hP : va_P (dC, dI) vwCl (cb_w ad cI cJ n tc ki ra po se bc bs (vp_updL (vp_updL op i ((op i) + (pay op i j))) j (((vp_updL op i ((op i) + (pay op i j))) j) - (pay op i j))) (upd pr tc (nI i)) (upd pe tc (nI j)) pm) H := hP
  have hD : va_D A (cb_w ad cI cJ n tc ki ra po se bc bs (vp_updL (vp_updL op i ((op i) + (pay op i j))) j (((vp_updL op i ((op i) + (pay op i j))) j) - (pay op i j))) (upd pr tc (nI i)) (upd pe tc (nI j)) pm) := hD
  refine lv_aload_n hx hb d_B_makeTransfer_57 rfl (lv_at hl 1 rfl) ?_
  refine va_get (D := (dC, dI)) (ci := 0) (v := .ref (ad 10)) (C := "ClearingBooks") (T := T_B) (N := 12) hx hb hts wi_B hown hK hP 0 rfl rfl 11 (by decide) (hts _ kw_28) (fun _ h9 => h9) rfl d_B_makeTransfer_58 ?_
  refine lv_aload_n hx hb d_B_makeTransfer_61 rfl (lv_at hl 1 rfl) ?_
  refine va_get (D := (dC, dI)) (ci := 0) (v := .int (nI tc)) (C := "ClearingBooks") (T := T_B) (N := 12) hx hb hts wi_B hown hK hP 0 rfl rfl 8 (by decide) (hts _ kw_25) (fun _ h9 => h9) rfl d_B_makeTransfer_62 ?_
  refine lv_lload_n hx hb d_B_makeTransfer_65 rfl (lv_at hl 0 rfl) ?_
  refine xa_lastore (f := pm) (x := pay op i j) hx hb hK hP hD hS 10 1 rfl rfl (j := tc) (by omega) (by decide) d_B_makeTransfer_66 (fun H locs hP hD hS => ?_)
  have hP : va_P (dC, dI) vwCl (cb_w ad cI cJ n tc ki ra po se bc bs (vp_updL (vp_updL op i ((op i) + (pay op i j))) j (((vp_updL op i ((op i) + (pay op i j))) j) - (pay op i j))) (upd pr tc (nI i)) (upd pe tc (nI j)) (vp_updL pm tc (pay op i j))) H := hP
  have hD : va_D A (cb_w ad cI cJ n tc ki ra po se bc bs (vp_updL (vp_updL op i ((op i) + (pay op i j))) j (((vp_updL op i ((op i) + (pay op i j))) j) - (pay op i j))) (upd pr tc (nI i)) (upd pe tc (nI j)) (vp_updL pm tc (pay op i j))) := hD
  refine lv_aload_n hx hb d_B_makeTransfer_67 rfl (lv_at hl 1 rfl) ?_
  refine lv_dup hx hb d_B_makeTransfer_68 rfl ?_
  refine va_get (D := (dC, dI)) (ci := 0) (v := .int (nI tc)) (C := "ClearingBooks") (T := T_B) (N := 12) hx hb hts wi_B hown hK hP 0 rfl rfl 8 (by decide) (hts _ kw_25) (fun _ h9 => h9) rfl d_B_makeTransfer_69 ?_
  refine lv_iconst (v := nI 1) hx hb d_B_makeTransfer_72 (by decide) ?_
  refine t_iadd hx hb d_B_makeTransfer_73 (v := nI (tc + 1)) (nI_add tc 1) ?_
  refine va_put (D := (dC, dI)) (ci := 0) (v := .int (nI (tc + 1))) (ty := .int) (C := "ClearingBooks") (T := T_B) (N := 12) hx hb hts wi_B ty_B tyok_B nm_B hown hK hP hD hS 0 rfl rfl 8 (by decide) (hts _ kw_25) (fun _ h9 => h9) rfl (by decide +kernel) rfl rfl (Nat.le_of_ble_eq_true rfl) d_B_makeTransfer_74 (fun H locs hP hD hS => ?_)
  have hP : va_P (dC, dI) vwCl (cb_w ad cI cJ n (tc + 1) ki ra po se bc bs (vp_updL (vp_updL op i ((op i) + (pay op i j))) j (((vp_updL op i ((op i) + (pay op i j))) j) - (pay op i j))) (upd pr tc (nI i)) (upd pe tc (nI j)) (vp_updL pm tc (pay op i j))) H := hP
  have hD : va_D A (cb_w ad cI cJ n (tc + 1) ki ra po se bc bs (vp_updL (vp_updL op i ((op i) + (pay op i j))) j (((vp_updL op i ((op i) + (pay op i j))) j) - (pay op i j))) (upd pr tc (nI i)) (upd pe tc (nI j)) (vp_updL pm tc (pay op i j))) := hD
  exact W.vret hx hb hr (fun t ht hW => ⟨⟨(), rfl, trivial, by rw [ht]; exact hP, va_K.moved hW.alike hK, hD⟩, hS.F ht⟩) hS.2.2 d_B_makeTransfer_77
set_option maxHeartbeats 4000000 in
set_option maxRecDepth 100000 in
theorem c_makeTransfers (l : Launch) (dC : Nat → ClassId) (dI : Nat → Nat → Nat) (ad : Nat → Nat) (cI cJ : ClassId) (n tc : Nat) (ki ra : Nat → Int32) (po se : Nat → Int64) (bc : Nat → Int32) (bs op : Nat → Int64) (pr pe : Nat → Int32) (pm : Nat → Int64) (sz : Nat) (h0 : 1 ≤ n) (hn : n ≤ 15) : Met l y_B_makeTransfers (.code y_B_makeTransfers b_B_makeTransfers 2 none :: wAll) ({ frames := 2, cells := 0, slots := 0, locals := 47 } : Room) (mu_P [.ref (ad 0)] (dC, dI) vwCl [(cI, .int), (cJ, .long)] (cb_w ad cI cJ n tc ki ra po se bc bs op pr pe pm) sz) (va_Qv (fun _ : Unit => True) (mu_B (dC, dI) vwCl [(cI, .int), (cJ, .long)] (va_A (cb_w ad cI cJ n tc ki ra po se bc bs op pr pe pm) sz) (cb_w ad cI cJ n ((trs n 14 (0, op, pr, pe, pm)).1) ki ra po se bc bs ((trs n 14 (0, op, pr, pe, pm)).2.1) ((trs n 14 (0, op, pr, pe, pm)).2.2.1) ((trs n 14 (0, op, pr, pe, pm)).2.2.2.1) ((trs n 14 (0, op, pr, pe, pm)).2.2.2.2))) (va_A (cb_w ad cI cJ n tc ki ra po se bc bs op pr pe pm) sz)) 0 0 (va_A (cb_w ad cI cJ n tc ki ra po se bc bs op pr pe pm) sz) := by
  refine Met.ofW (cc := b_B_makeTransfers) (maxL := 2) (ret := none) (by decide) rfl ?_
  intro p e s m args below meth c s₁ B hml hv
  obtain ⟨rfl, hsz, hP, hK, hD0⟩ := hv
  have hx := B.exec
  have hb := B.bytes
  have hr := B.returns
  have hts0 := atoms_spec (ws := (.code y_B_makeTransfers b_B_makeTransfers 2 none :: wAll)) B.pre
  have hts := hts_all hts0
  have hown : s.vm.findClass "ClearingBooks" = some m.cls := findClass_of_methodNamed B.named
  have hlocks := B.notSynchronized
  subst hsz
  have hD := hD0.self (sz := s.heap.size)
  generalize hAe : va_A (cb_w ad cI cJ n tc ki ra po se bc bs op pr pe pm) s.heap.size = A at hD ⊢
  have hA : ∀ q : Nat, s.heap.size ≤ q → A q := fun q h => by rw [← hAe]; exact Or.inr h
  have hS : va_S A s.heap s.heap [] := va_S.rf
  have hl := lv_entry ([.ref (ad 0)]) (n := 2) (Nat.le_of_ble_eq_true rfl)
  rw [lg_entry_eq]
  generalize (lg_sl ([.ref (ad 0)]) ++ List.replicate (2 - (lg_sl ([.ref (ad 0)])).length) Slot.unset).toArray = ls at hl ⊢
  have hl : lv_has ls 2 [(0, .ref (ad 0))] := hl
  refine lv_aload_n hx hb d_B_makeTransfers_0 rfl (lv_at hl 0 rfl) ?_
  refine lv_iconst (v := nI 0) hx hb d_B_makeTransfers_1 (by decide) ?_
  refine va_put (D := (dC, dI)) (ci := 0) (v := .int (nI 0)) (ty := .int) (C := "ClearingBooks") (T := T_B) (N := 12) hx hb hts wi_B ty_B tyok_B nm_B hown hK hP hD hS 0 rfl rfl 8 (by decide) (hts _ kw_25) (fun _ h9 => h9) rfl (by decide +kernel) rfl rfl (Nat.le_of_ble_eq_true rfl) d_B_makeTransfers_2 (fun H locs hP hD hS => ?_)
  have hP : va_P (dC, dI) vwCl (cb_w ad cI cJ n 0 ki ra po se bc bs op pr pe pm) H := hP
  have hD : va_D A (cb_w ad cI cJ n 0 ki ra po se bc bs op pr pe pm) := hD
  have loop : ∀ (k : Nat) (t : TT) (H : Heap) (locs : List Loc) (ls : Array Slot) (z : List (Nat × Value)), t.1 + k = 14 → trs n k t = (trs n 14 (0, op, pr, pe, pm)) → va_P (dC, dI) vwCl (cb_w ad cI cJ n t.1 ki ra po se bc bs t.2.1 t.2.2.1 t.2.2.2.1 t.2.2.2.2) H → va_D A (cb_w ad cI cJ n t.1 ki ra po se bc bs t.2.1 t.2.2.1 t.2.2.2.1 t.2.2.2.2) → va_S A s.heap H locs → lv_has ls 2 ((0, .ref (ad 0)) :: z) → W p l e (headSpec (.code y_B_makeTransfers b_B_makeTransfers 2 none :: wAll) ({ frames := 2, cells := 0, slots := 0, locals := 47 } : Room)).room s m ([.ref (ad 0)] : List Value).toArray below meth c H locs 0 0 (MQ below (va_Qv (fun _ : Unit => True) (mu_B (dC, dI) vwCl [(cI, .int), (cJ, .long)] A (cb_w ad cI cJ n ((trs n 14 (0, op, pr, pe, pm)).1) ki ra po se bc bs ((trs n 14 (0, op, pr, pe, pm)).2.1) ((trs n 14 (0, op, pr, pe, pm)).2.2.1) ((trs n 14 (0, op, pr, pe, pm)).2.2.2.1) ((trs n 14 (0, op, pr, pe, pm)).2.2.2.2))) A) ([.ref (ad 0)] : List Value).toArray s 0 0 A) (F0 m 5 ls []) := by
    intro k
    induction k with
    | zero =>
      intro t H locs ls z hk hF hP hD hS hl
      replace hl := lv_sub (l' := [(0, .ref (ad 0))]) hl [0] rfl
      replace hF : t = (trs n 14 (0, op, pr, pe, pm)) := hF
      refine lv_aload_n hx hb d_B_makeTransfers_5 rfl (lv_at hl 0 rfl) ?_
      refine va_get (D := (dC, dI)) (ci := 0) (v := .int (nI t.1)) (C := "ClearingBooks") (T := T_B) (N := 12) hx hb hts wi_B hown hK hP 0 rfl rfl 8 (by decide) (hts _ kw_25) (fun _ h9 => h9) rfl d_B_makeTransfers_6 ?_
      refine lv_bipush (v := nI 14) hx hb d_B_makeTransfers_9 (by decide) ?_
      refine lv_icmp_ge (tgt := 43) hx hb d_B_makeTransfers_11 (by decide) (fun c51 => ?_) (fun c51 => ?_)
      · replace c51 := (nI_leI (by omega) (by omega)).mp c51
        exact W.vret hx hb hr (fun t ht hW => ⟨⟨(), rfl, trivial, by rw [ht]; exact by rw [← hF]; exact hP, va_K.moved hW.alike hK, by rw [← hF]; exact hD⟩, hS.F ht⟩) hS.2.2 d_B_makeTransfers_43
      · replace c51 := mt (nI_leI (by omega) (by omega)).mpr c51
        exfalso; omega
    | succ k ih =>
      intro t H locs ls z hk hF hP hD hS hl
      replace hl := lv_sub (l' := [(0, .ref (ad 0))]) hl [0] rfl
      refine lv_aload_n hx hb d_B_makeTransfers_5 rfl (lv_at hl 0 rfl) ?_
      refine va_get (D := (dC, dI)) (ci := 0) (v := .int (nI t.1)) (C := "ClearingBooks") (T := T_B) (N := 12) hx hb hts wi_B hown hK hP 0 rfl rfl 8 (by decide) (hts _ kw_25) (fun _ h9 => h9) rfl d_B_makeTransfers_6 ?_
      refine lv_bipush (v := nI 14) hx hb d_B_makeTransfers_9 (by decide) ?_
      refine lv_icmp_ge (tgt := 43) hx hb d_B_makeTransfers_11 (by decide) (fun c51 => ?_) (fun c51 => ?_)
      · replace c51 := (nI_leI (by omega) (by omega)).mp c51
        exfalso; omega
      · replace c51 := mt (nI_leI (by omega) (by omega)).mpr c51
        have h7 := am_le t.2.1 (n - 1)
        have h8 := ax_le t.2.1 (n - 1)
        refine lv_aload_n hx hb d_B_makeTransfers_14 rfl (lv_at hl 0 rfl) ?_
        refine ro_call (va_runV (As := []) (rest := []) ⟨hx, hb, hml, hown, hts⟩ (c_leastOpen l dC dI ad cI cJ n t.1 ki ra po se bc bs t.2.1 t.2.2.1 t.2.2.2.1 t.2.2.2.2 h0 hn) (cwV 0 hts (wAll_v kw_64 kw_66 ks_1 kw_1 kw_67) rfl rfl rfl (by decide +kernel) ⟨Nat.le_of_ble_eq_true rfl, Nat.le_of_ble_eq_true rfl⟩) (ro_preV bl_tt hK hP (ci := 0) (q0 := 0) rfl rfl (fun _ _ _ => trivial)) rfl rfl hl.1 rfl (lv_room (Nat.le_of_ble_eq_true rfl)) d_B_makeTransfers_15 ⟨Nat.le_of_ble_eq_true rfl, Nat.le_of_ble_eq_true rfl⟩) ?_
        refine W.eq (g2 := F0 m 18 ls [.int (nI (am t.2.1 (n - 1)))]) rfl ?_
        refine lv_istore_n (lv' := [(1, .int (nI (am t.2.1 (n - 1)))), (0, .ref (ad 0))]) hx hb d_B_makeTransfers_18 rfl hl (by decide) rfl (fun ls hl => ?_)
        refine lv_aload_n hx hb d_B_makeTransfers_19 rfl (lv_at hl 1 rfl) ?_
        refine va_get (D := (dC, dI)) (ci := 0) (v := .ref (ad 7)) (C := "ClearingBooks") (T := T_B) (N := 12) hx hb hts wi_B hown hK hP 0 rfl rfl 7 (by decide) (hts _ kw_24) (fun _ h9 => h9) rfl d_B_makeTransfers_20 ?_
        refine lv_iload_n hx hb d_B_makeTransfers_23 rfl (lv_at hl 0 rfl) ?_
        refine xa_laload (f := t.2.1) hx hb hK hP 7 1 rfl rfl (j := am t.2.1 (n - 1)) (by omega) (by decide) d_B_makeTransfers_24 ?_
        refine lv_lconst (v := 0) hx hb d_B_makeTransfers_25 (by decide) ?_
        refine W.lcmp hx hb d_B_makeTransfers_26 ?_
        refine lv_if_lt (tgt := 31) hx hb d_B_makeTransfers_27 (by decide) (fun c52 => ?_) (fun c52 => ?_)
        · replace c52 := (lg_cmp_lt _ _).mp c52
          replace hF : trs n k (tr1 n t) = (trs n 14 (0, op, pr, pe, pm)) := by rw [← hF, trs, if_neg (Int64.not_le.mpr c52)]
          refine lv_aload_n hx hb d_B_makeTransfers_31 rfl (lv_at hl 1 rfl) ?_
          refine lv_iload_n hx hb d_B_makeTransfers_32 rfl (lv_at hl 0 rfl) ?_
          refine lv_aload_n hx hb d_B_makeTransfers_33 rfl (lv_at hl 1 rfl) ?_
          refine ro_call (va_runV (As := []) (rest := [.int (nI (am t.2.1 (n - 1))), .ref (ad 0)]) ⟨hx, hb, hml, hown, hts⟩ (c_greatestOpen l dC dI ad cI cJ n t.1 ki ra po se bc bs t.2.1 t.2.2.1 t.2.2.2.1 t.2.2.2.2 h0 hn) (cwV 0 hts (wAll_v kw_68 kw_70 ks_2 kw_1 kw_71) rfl rfl rfl (by decide +kernel) ⟨Nat.le_of_ble_eq_true rfl, Nat.le_of_ble_eq_true rfl⟩) (ro_preV bl_tt hK hP (ci := 0) (q0 := 0) rfl rfl (fun _ _ _ => trivial)) rfl rfl hl.1 rfl (lv_room (Nat.le_of_ble_eq_true rfl)) d_B_makeTransfers_34 ⟨Nat.le_of_ble_eq_true rfl, Nat.le_of_ble_eq_true rfl⟩) ?_
          refine W.eq (g2 := F0 m 37 ls [.int (nI (ax t.2.1 (n - 1))), .int (nI (am t.2.1 (n - 1))), .ref (ad 0)]) rfl ?_
          refine mu_callv (va_runV (As := [.int (nI (am t.2.1 (n - 1))), .int (nI (ax t.2.1 (n - 1)))]) (rest := []) ⟨hx, hb, hml, hown, hts⟩ (c_makeTransfer l dC dI ad cI cJ n t.1 ki ra po se bc bs t.2.1 t.2.2.1 t.2.2.2.1 t.2.2.2.2 _ (am t.2.1 (n - 1)) (ax t.2.1 (n - 1)) (by omega) (by omega) hn (by omega)) (cwV 2 hts (wAll_v kw_72 kw_74 ks_3 kw_1 kw_75) rfl rfl rfl (by decide +kernel) ⟨Nat.le_of_ble_eq_true rfl, Nat.le_of_ble_eq_true rfl⟩) (mu_preV hK hP hD (ci := 0) (q0 := 0) rfl rfl) rfl rfl hl.1 rfl (lv_room (Nat.le_of_ble_eq_true rfl)) d_B_makeTransfers_37 ⟨Nat.le_of_ble_eq_true rfl, Nat.le_of_ble_eq_true rfl⟩) hD hS hA (fun H locs hP hD hS => ?_)
          have hP : va_P (dC, dI) vwCl (cb_w ad cI cJ n ((tr1 n t).1) ki ra po se bc bs ((tr1 n t).2.1) ((tr1 n t).2.2.1) ((tr1 n t).2.2.2.1) ((tr1 n t).2.2.2.2)) H := hP
          have hD : va_D A (cb_w ad cI cJ n ((tr1 n t).1) ki ra po se bc bs ((tr1 n t).2.1) ((tr1 n t).2.2.1) ((tr1 n t).2.2.2.1) ((tr1 n t).2.2.2.2)) := hD
          refine lv_goto (tgt := 5) hx hb d_B_makeTransfers_40 (by decide) ?_
          exact ih (tr1 n t) H locs ls _ (by show t.1 + 1 + k = 14; omega) hF hP hD hS (lv_sub (l' := [(0, .ref (ad 0)), (1, .int (nI (am t.2.1 (n - 1))))]) hl [1, 0] rfl)
        · replace c52 := mt (lg_cmp_lt _ _).mpr c52
          replace hF : t = (trs n 14 (0, op, pr, pe, pm)) := by rw [← hF, trs, if_pos (Int64.not_lt.mp c52)]
          exact W.vret hx hb hr (fun t ht hW => ⟨⟨(), rfl, trivial, by rw [ht]; exact by rw [← hF]; exact hP, va_K.moved hW.alike hK, by rw [← hF]; exact hD⟩, hS.F ht⟩) hS.2.2 d_B_makeTransfers_30
  exact loop 14 (0, op, pr, pe, pm) H locs ls [] rfl rfl hP hD hS hl
set_option maxHeartbeats 4000000 in
set_option maxRecDepth 100000 in
theorem c_settle (l : Launch) (dC : Nat → ClassId) (dI : Nat → Nat → Nat) (ad : Nat → Nat) (cI cJ : ClassId) (n tc : Nat) (ki ra : Nat → Int32) (po se : Nat → Int64) (bc : Nat → Int32) (bs op : Nat → Int64) (pr pe : Nat → Int32) (pm : Nat → Int64) (sz : Nat) (h0 : 1 ≤ n) (hn : n ≤ 15) : Met l y_B_settle (.code y_B_settle b_B_settle 2 (some .int) :: wAll) ({ frames := 3, cells := 0, slots := 0, locals := 68 } : Room) (mu_P [.ref (ad 0)] (dC, dI) vwCl [(cI, .int), (cJ, .long)] (cb_w ad cI cJ n tc ki ra po se bc bs op pr pe pm) sz) (va_Qi (fun (z : Int32) (_ : Unit) => z = nI (trs n 14 (0, cpy n po op, pr, pe, pm)).1) (mu_B (dC, dI) vwCl [(cI, .int), (cJ, .long)] (va_A (cb_w ad cI cJ n tc ki ra po se bc bs op pr pe pm) sz) (cb_w ad cI cJ n ((trs n 14 (0, cpy n po op, pr, pe, pm)).1) ki ra (cpy n (fun _ => 0) po) (cpy n (fun q => se q + po q) se) bc bs ((trs n 14 (0, cpy n po op, pr, pe, pm)).2.1) ((trs n 14 (0, cpy n po op, pr, pe, pm)).2.2.1) ((trs n 14 (0, cpy n po op, pr, pe, pm)).2.2.2.1) ((trs n 14 (0, cpy n po op, pr, pe, pm)).2.2.2.2))) (va_A (cb_w ad cI cJ n tc ki ra po se bc bs op pr pe pm) sz)) 0 0 (va_A (cb_w ad cI cJ n tc ki ra po se bc bs op pr pe pm) sz) := by
  refine Met.ofW (cc := b_B_settle) (maxL := 2) (ret := (some .int)) (by decide) rfl ?_
  intro p e s m args below meth c s₁ B hml hv
  obtain ⟨rfl, hsz, hP, hK, hD0⟩ := hv
  have hx := B.exec
  have hb := B.bytes
  have hr := B.returns
  have hts0 := atoms_spec (ws := (.code y_B_settle b_B_settle 2 (some .int) :: wAll)) B.pre
  have hts := hts_all hts0
  have hown : s.vm.findClass "ClearingBooks" = some m.cls := findClass_of_methodNamed B.named
  have hlocks := B.notSynchronized
  subst hsz
  have hD := hD0.self (sz := s.heap.size)
  generalize hAe : va_A (cb_w ad cI cJ n tc ki ra po se bc bs op pr pe pm) s.heap.size = A at hD ⊢
  have hA : ∀ q : Nat, s.heap.size ≤ q → A q := fun q h => by rw [← hAe]; exact Or.inr h
  have hS : va_S A s.heap s.heap [] := va_S.rf
  have hl := lv_entry ([.ref (ad 0)]) (n := 2) (Nat.le_of_ble_eq_true rfl)
  rw [lg_entry_eq]
  generalize (lg_sl ([.ref (ad 0)]) ++ List.replicate (2 - (lg_sl ([.ref (ad 0)])).length) Slot.unset).toArray = ls at hl ⊢
  have hl : lv_has ls 2 [(0, .ref (ad 0))] := hl
  refine lv_iconst (v := nI 0) hx hb d_B_settle_0 (by decide) ?_
  refine lv_istore_n (lv' := [(1, .int (nI 0)), (0, .ref (ad 0))]) hx hb d_B_settle_1 rfl hl (by decide) rfl (fun ls hl => ?_)
  have loop : ∀ (k i : Nat) (H : Heap) (locs : List Loc) (ls : Array Slot), i + k = n → va_P (dC, dI) vwCl (cb_w ad cI cJ n tc ki ra (cpy i (fun _ => 0) po) (cpy i (fun q => se q + po q) se) bc bs (cpy i po op) pr pe pm) H → va_D A (cb_w ad cI cJ n tc ki ra (cpy i (fun _ => 0) po) (cpy i (fun q => se q + po q) se) bc bs (cpy i po op) pr pe pm) → va_S A s.heap H locs → lv_has ls 2 [(0, .ref (ad 0)), (1, .int (nI i))] → W p l e (headSpec (.code y_B_settle b_B_settle 2 (some .int) :: wAll) ({ frames := 3, cells := 0, slots := 0, locals := 68 } : Room)).room s m ([.ref (ad 0)] : List Value).toArray below meth c H locs 0 0 (MQ below (va_Qi (fun (z : Int32) (_ : Unit) => z = nI (trs n 14 (0, cpy n po op, pr, pe, pm)).1) (mu_B (dC, dI) vwCl [(cI, .int), (cJ, .long)] A (cb_w ad cI cJ n ((trs n 14 (0, cpy n po op, pr, pe, pm)).1) ki ra (cpy n (fun _ => 0) po) (cpy n (fun q => se q + po q) se) bc bs ((trs n 14 (0, cpy n po op, pr, pe, pm)).2.1) ((trs n 14 (0, cpy n po op, pr, pe, pm)).2.2.1) ((trs n 14 (0, cpy n po op, pr, pe, pm)).2.2.2.1) ((trs n 14 (0, cpy n po op, pr, pe, pm)).2.2.2.2))) A) ([.ref (ad 0)] : List Value).toArray s 0 0 A) (F0 m 2 ls []) := by
    intro k
    induction k with
    | zero =>
      intro i H locs ls hi hP hD hS hl
      obtain rfl : i = n := by omega
      refine lv_iload_n hx hb d_B_settle_2 rfl (lv_at hl 1 rfl) ?_
      refine lv_aload_n hx hb d_B_settle_3 rfl (lv_at hl 0 rfl) ?_
      refine va_get (D := (dC, dI)) (ci := 0) (v := .int (nI i)) (C := "ClearingBooks") (T := T_B) (N := 12) hx hb hts wi_B hown hK hP 0 rfl rfl 0 (by decide) (hts _ kw_17) (fun _ h9 => h9) rfl d_B_settle_4 ?_
      refine lv_icmp_ge (tgt := 50) hx hb d_B_settle_7 (by decide) (fun c51 => ?_) (fun c51 => ?_)
      · replace c51 := (nI_leI (by omega) (by omega)).mp c51
        refine lv_aload_n hx hb d_B_settle_50 rfl (lv_at hl 0 rfl) ?_
        refine mu_callv (va_runV (As := []) (rest := []) ⟨hx, hb, hml, hown, hts⟩ (c_makeTransfers l dC dI ad cI cJ i tc ki ra (cpy i (fun _ => 0) po) (cpy i (fun q => se q + po q) se) bc bs (cpy i po op) pr pe pm _ h0 hn) (cwV 0 hts (wAll_v kw_60 kw_62 ks_0 kw_1 kw_63) rfl rfl rfl (by decide +kernel) ⟨Nat.le_of_ble_eq_true rfl, Nat.le_of_ble_eq_true rfl⟩) (mu_preV hK hP hD (ci := 0) (q0 := 0) rfl rfl) rfl rfl hl.1 rfl (lv_room (Nat.le_of_ble_eq_true rfl)) d_B_settle_51 ⟨Nat.le_of_ble_eq_true rfl, Nat.le_of_ble_eq_true rfl⟩) hD hS hA (fun H locs hP hD hS => ?_)
        have hP : va_P (dC, dI) vwCl (cb_w ad cI cJ i ((trs i 14 (0, cpy i po op, pr, pe, pm)).1) ki ra (cpy i (fun _ => 0) po) (cpy i (fun q => se q + po q) se) bc bs ((trs i 14 (0, cpy i po op, pr, pe, pm)).2.1) ((trs i 14 (0, cpy i po op, pr, pe, pm)).2.2.1) ((trs i 14 (0, cpy i po op, pr, pe, pm)).2.2.2.1) ((trs i 14 (0, cpy i po op, pr, pe, pm)).2.2.2.2)) H := hP
        have hD : va_D A (cb_w ad cI cJ i ((trs i 14 (0, cpy i po op, pr, pe, pm)).1) ki ra (cpy i (fun _ => 0) po) (cpy i (fun q => se q + po q) se) bc bs ((trs i 14 (0, cpy i po op, pr, pe, pm)).2.1) ((trs i 14 (0, cpy i po op, pr, pe, pm)).2.2.1) ((trs i 14 (0, cpy i po op, pr, pe, pm)).2.2.2.1) ((trs i 14 (0, cpy i po op, pr, pe, pm)).2.2.2.2)) := hD
        refine lv_aload_n hx hb d_B_settle_54 rfl (lv_at hl 0 rfl) ?_
        refine va_get (D := (dC, dI)) (ci := 0) (v := .int (nI ((trs i 14 (0, cpy i po op, pr, pe, pm)).1))) (C := "ClearingBooks") (T := T_B) (N := 12) hx hb hts wi_B hown hK hP 0 rfl rfl 8 (by decide) (hts _ kw_25) (fun _ h9 => h9) rfl d_B_settle_55 ?_
        exact W.iret (v := nI ((trs i 14 (0, cpy i po op, pr, pe, pm)).1)) hx hb hr (fun t ht hW => ⟨⟨nI ((trs i 14 (0, cpy i po op, pr, pe, pm)).1), (), rfl, rfl, by rw [ht]; exact hP, va_K.moved hW.alike hK, hD⟩, hS.F ht⟩) hS.2.2 d_B_settle_58
      · replace c51 := mt (nI_leI (by omega) (by omega)).mpr c51
        exfalso; omega
    | succ k ih =>
      intro i H locs ls hi hP hD hS hl
      refine lv_iload_n hx hb d_B_settle_2 rfl (lv_at hl 1 rfl) ?_
      refine lv_aload_n hx hb d_B_settle_3 rfl (lv_at hl 0 rfl) ?_
      refine va_get (D := (dC, dI)) (ci := 0) (v := .int (nI n)) (C := "ClearingBooks") (T := T_B) (N := 12) hx hb hts wi_B hown hK hP 0 rfl rfl 0 (by decide) (hts _ kw_17) (fun _ h9 => h9) rfl d_B_settle_4 ?_
      refine lv_icmp_ge (tgt := 50) hx hb d_B_settle_7 (by decide) (fun c51 => ?_) (fun c51 => ?_)
      · replace c51 := (nI_leI (by omega) (by omega)).mp c51
        exfalso; omega
      · replace c51 := mt (nI_leI (by omega) (by omega)).mpr c51
        refine lv_aload_n hx hb d_B_settle_10 rfl (lv_at hl 0 rfl) ?_
        refine va_get (D := (dC, dI)) (ci := 0) (v := .ref (ad 7)) (C := "ClearingBooks") (T := T_B) (N := 12) hx hb hts wi_B hown hK hP 0 rfl rfl 7 (by decide) (hts _ kw_24) (fun _ h9 => h9) rfl d_B_settle_11 ?_
        refine lv_iload_n hx hb d_B_settle_14 rfl (lv_at hl 1 rfl) ?_
        refine lv_aload_n hx hb d_B_settle_15 rfl (lv_at hl 0 rfl) ?_
        refine va_get (D := (dC, dI)) (ci := 0) (v := .ref (ad 3)) (C := "ClearingBooks") (T := T_B) (N := 12) hx hb hts wi_B hown hK hP 0 rfl rfl 3 (by decide) (hts _ kw_20) (fun _ h9 => h9) rfl d_B_settle_16 ?_
        refine lv_iload_n hx hb d_B_settle_19 rfl (lv_at hl 1 rfl) ?_
        refine xa_laload (f := cpy i (fun _ => 0) po) hx hb hK hP 3 1 rfl rfl (j := i) (by omega) (by decide) d_B_settle_20 ?_
        refine xa_lastore (f := cpy i po op) (x := (cpy i (fun _ => 0) po) i) hx hb hK hP hD hS 7 1 rfl rfl (j := i) (by omega) (by decide) d_B_settle_21 (fun H locs hP hD hS => ?_)
        have hP : va_P (dC, dI) vwCl (cb_w ad cI cJ n tc ki ra (cpy i (fun _ => 0) po) (cpy i (fun q => se q + po q) se) bc bs (vp_updL (cpy i po op) i ((cpy i (fun _ => 0) po) i)) pr pe pm) H := hP
        have hD : va_D A (cb_w ad cI cJ n tc ki ra (cpy i (fun _ => 0) po) (cpy i (fun q => se q + po q) se) bc bs (vp_updL (cpy i po op) i ((cpy i (fun _ => 0) po) i)) pr pe pm) := hD
        refine lv_aload_n hx hb d_B_settle_22 rfl (lv_at hl 0 rfl) ?_
        refine va_get (D := (dC, dI)) (ci := 0) (v := .ref (ad 4)) (C := "ClearingBooks") (T := T_B) (N := 12) hx hb hts wi_B hown hK hP 0 rfl rfl 4 (by decide) (hts _ kw_21) (fun _ h9 => h9) rfl d_B_settle_23 ?_
        refine lv_iload_n hx hb d_B_settle_26 rfl (lv_at hl 1 rfl) ?_
        refine lv_dup2_11 hx hb d_B_settle_27 rfl rfl ?_
        refine xa_laload (f := cpy i (fun q => se q + po q) se) hx hb hK hP 4 1 rfl rfl (j := i) (by omega) (by decide) d_B_settle_28 ?_
        refine lv_aload_n hx hb d_B_settle_29 rfl (lv_at hl 0 rfl) ?_
        refine va_get (D := (dC, dI)) (ci := 0) (v := .ref (ad 3)) (C := "ClearingBooks") (T := T_B) (N := 12) hx hb hts wi_B hown hK hP 0 rfl rfl 3 (by decide) (hts _ kw_20) (fun _ h9 => h9) rfl d_B_settle_30 ?_
        refine lv_iload_n hx hb d_B_settle_33 rfl (lv_at hl 1 rfl) ?_
        refine xa_laload (f := cpy i (fun _ => 0) po) hx hb hK hP 3 1 rfl rfl (j := i) (by omega) (by decide) d_B_settle_34 ?_
        refine lv_ladd hx hb d_B_settle_35 ?_
        refine xa_lastore (f := cpy i (fun q => se q + po q) se) (x := ((cpy i (fun q => se q + po q) se) i) + ((cpy i (fun _ => 0) po) i)) hx hb hK hP hD hS 4 1 rfl rfl (j := i) (by omega) (by decide) d_B_settle_36 (fun H locs hP hD hS => ?_)
        have hP : va_P (dC, dI) vwCl (cb_w ad cI cJ n tc ki ra (cpy i (fun _ => 0) po) (vp_updL (cpy i (fun q => se q + po q) se) i (((cpy i (fun q => se q + po q) se) i) + ((cpy i (fun _ => 0) po) i))) bc bs (vp_updL (cpy i po op) i ((cpy i (fun _ => 0) po) i)) pr pe pm) H := hP
        have hD : va_D A (cb_w ad cI cJ n tc ki ra (cpy i (fun _ => 0) po) (vp_updL (cpy i (fun q => se q + po q) se) i (((cpy i (fun q => se q + po q) se) i) + ((cpy i (fun _ => 0) po) i))) bc bs (vp_updL (cpy i po op) i ((cpy i (fun _ => 0) po) i)) pr pe pm) := hD
        refine lv_aload_n hx hb d_B_settle_37 rfl (lv_at hl 0 rfl) ?_
        refine va_get (D := (dC, dI)) (ci := 0) (v := .ref (ad 3)) (C := "ClearingBooks") (T := T_B) (N := 12) hx hb hts wi_B hown hK hP 0 rfl rfl 3 (by decide) (hts _ kw_20) (fun _ h9 => h9) rfl d_B_settle_38 ?_
        refine lv_iload_n hx hb d_B_settle_41 rfl (lv_at hl 1 rfl) ?_
        refine lv_lconst (v := 0) hx hb d_B_settle_42 (by decide) ?_
        refine xa_lastore (f := cpy i (fun _ => 0) po) (x := 0) hx hb hK hP hD hS 3 1 rfl rfl (j := i) (by omega) (by decide) d_B_settle_43 (fun H locs hP hD hS => ?_)
        have hP : va_P (dC, dI) vwCl (cb_w ad cI cJ n tc ki ra (vp_updL (cpy i (fun _ => 0) po) i 0) (vp_updL (cpy i (fun q => se q + po q) se) i (((cpy i (fun q => se q + po q) se) i) + ((cpy i (fun _ => 0) po) i))) bc bs (vp_updL (cpy i po op) i ((cpy i (fun _ => 0) po) i)) pr pe pm) H := hP
        have hD : va_D A (cb_w ad cI cJ n tc ki ra (vp_updL (cpy i (fun _ => 0) po) i 0) (vp_updL (cpy i (fun q => se q + po q) se) i (((cpy i (fun q => se q + po q) se) i) + ((cpy i (fun _ => 0) po) i))) bc bs (vp_updL (cpy i po op) i ((cpy i (fun _ => 0) po) i)) pr pe pm) := hD
        refine lv_iinc (v := nI (i + 1)) (lv' := [(1, .int (nI (i + 1))), (0, .ref (ad 0))]) hx hb d_B_settle_44 hl (k := 1) rfl (nI_1 i) (by decide) rfl (fun ls hl => ?_)
        refine lv_goto (tgt := 2) hx hb d_B_settle_47 (by decide) ?_
        have e_op : vp_updL (cpy i po op) i ((cpy i (fun _ => 0) po) i) = cpy (i + 1) po op := cpy_up (cpy_at i (fun _ => 0) po)
        have e_se : vp_updL (cpy i (fun q => se q + po q) se) i (((cpy i (fun q => se q + po q) se) i) + ((cpy i (fun _ => 0) po) i)) = cpy (i + 1) (fun q => se q + po q) se := cpy_up (by rw [cpy_at, cpy_at])
        have e_po : vp_updL (cpy i (fun _ => 0) po) i 0 = cpy (i + 1) (fun _ => 0) po := cpy_up (rfl)
        rw [e_op, e_se, e_po] at hP hD
        exact ih (i + 1) H locs ls (by omega) hP hD hS (lv_sub hl [1, 0] rfl)
  have z_op := cpy_0 po op
  have z_se := cpy_0 (fun q => se q + po q) se
  have z_po := cpy_0 (fun _ => (0 : Int64)) po
  exact loop n 0 s.heap [] ls (by omega) (by rw [z_op, z_se, z_po]; exact hP) (by rw [z_op, z_se, z_po]; exact hD) hS (lv_sub hl [1, 0] rfl)
end
section
/-- the reference's cells, alike -/
abbrev md_w (ad : Nat → Nat) (cI cJ : ClassId) (cd n tc : Nat) (ki ra : Nat → Int32) (po se : Nat → Int64) (bc : Nat → Int32) (bs op : Nat → Int64) (pr pe : Nat → Int32) (pm : Nat → Int64) : va_W := [(ad 0, .inr (1, [.int (nI cd), .int (nI n), .ref (ad 1), .ref (ad 2), .ref (ad 3), .ref (ad 4), .ref (ad 5), .ref (ad 6), .ref (ad 7), .int (nI tc), .ref (ad 8), .ref (ad 9), .ref (ad 10)])), (ad 1, .inl (cI, 15, .inl ki)), (ad 2, .inl (cI, 15, .inl ra)), (ad 3, .inl (cJ, 15, .inr (.inl po))), (ad 4, .inl (cJ, 15, .inr (.inl se))), (ad 5, .inl (cI, 15, .inl bc)), (ad 6, .inl (cJ, 15, .inr (.inl bs))), (ad 7, .inl (cJ, 15, .inr (.inl op))), (ad 8, .inl (cI, 15, .inl pr)), (ad 9, .inl (cI, 15, .inl pe)), (ad 10, .inl (cJ, 15, .inr (.inl pm)))]
set_option maxHeartbeats 4000000 in
set_option maxRecDepth 100000 in
theorem m_thrown (l : Launch) (dC : Nat → ClassId) (dI : Nat → Nat → Nat) (ad : Nat → Nat) (cI cJ : ClassId) (cd n tc : Nat) (ki ra : Nat → Int32) (po se : Nat → Int64) (bc : Nat → Int32) (bs op : Nat → Int64) (pr pe : Nat → Int32) (pm : Nat → Int64)  : Met l y_M_thrown (.code y_M_thrown b_M_thrown 1 (some .int) :: wAll) ({ frames := 0, cells := 0, slots := 0, locals := 0 } : Room) (ro_P [.ref (ad 0)] (dC, dI) vwCl [(cI, .int), (cJ, .long)] (md_w ad cI cJ cd n tc ki ra po se bc bs op pr pe pm) (fun _ => True)) (ro_Q (some (.int (nI cd)))) 0 0 (fun _ => False) := by
  refine Met.ofW (cc := b_M_thrown) (maxL := 1) (ret := (some .int)) (by decide) rfl ?_
  intro p e s m args below meth c s₁ B hml hv
  obtain ⟨rfl, hP, hK, hB⟩ := hv
  have hx := B.exec
  have hb := B.bytes
  have hr := B.returns
  have hts0 := atoms_spec (ws := (.code y_M_thrown b_M_thrown 1 (some .int) :: wAll)) B.pre
  have hts := hts_all hts0
  have hown : s.vm.findClass "ClearingBooksModel" = some m.cls := findClass_of_methodNamed B.named
  have hlocks := B.notSynchronized
  have hl := lv_entry ([.ref (ad 0)]) (n := 1) (Nat.le_of_ble_eq_true rfl)
  rw [lg_entry_eq]
  generalize (lg_sl ([.ref (ad 0)]) ++ List.replicate (1 - (lg_sl ([.ref (ad 0)])).length) Slot.unset).toArray = ls at hl ⊢
  have hl : lv_has ls 1 [(0, .ref (ad 0))] := hl
  refine lv_aload_n hx hb d_M_thrown_0 rfl (lv_at hl 0 rfl) ?_
  refine va_get (D := (dC, dI)) (ci := 1) (v := .int (nI cd)) (C := "ClearingBooksModel") (T := T_M) (N := 13) hx hb hts wi_M hown hK hP 0 rfl rfl 0 (by decide) (hts _ kw_273) (fun _ h9 => h9) rfl d_M_thrown_1 ?_
  exact W.iret (v := nI cd) hx hb hr (fun t ht hW => ⟨rfl, ht⟩) (fun q hq => by cases hq) d_M_thrown_4
set_option maxHeartbeats 4000000 in
set_option maxRecDepth 100000 in
theorem m_is_y (l : Launch) (dC : Nat → ClassId) (dI : Nat → Nat → Nat) (ad : Nat → Nat) (cI cJ : ClassId) (cd n tc : Nat) (ki ra : Nat → Int32) (po se : Nat → Int64) (bc : Nat → Int32) (bs op : Nat → Int64) (pr pe : Nat → Int32) (pm : Nat → Int64) (j : Nat) (k : Int32) (hj0 : 0 < j) (hj : j < n) (hn : n ≤ 15) (hk : ki j = k) : Met l y_M_is (.code y_M_is b_M_is 3 (some .boolean) :: wAll) ({ frames := 0, cells := 0, slots := 0, locals := 0 } : Room) (ro_P [.ref (ad 0), .int (nI j), .int k] (dC, dI) vwCl [(cI, .int), (cJ, .long)] (md_w ad cI cJ cd n tc ki ra po se bc bs op pr pe pm) (fun _ => True)) (ro_Q (some (.int (nI 1)))) 0 0 (fun _ => False) := by
  refine Met.ofW (cc := b_M_is) (maxL := 3) (ret := (some .boolean)) (by decide) rfl ?_
  intro p e s m args below meth c s₁ B hml hv
  obtain ⟨rfl, hP, hK, hB⟩ := hv
  have hx := B.exec
  have hb := B.bytes
  have hr := B.returns
  have hts0 := atoms_spec (ws := (.code y_M_is b_M_is 3 (some .boolean) :: wAll)) B.pre
  have hts := hts_all hts0
  have hown : s.vm.findClass "ClearingBooksModel" = some m.cls := findClass_of_methodNamed B.named
  have hlocks := B.notSynchronized
  have hl := lv_entry ([.ref (ad 0), .int (nI j), .int k]) (n := 3) (Nat.le_of_ble_eq_true rfl)
  rw [lg_entry_eq]
  generalize (lg_sl ([.ref (ad 0), .int (nI j), .int k]) ++ List.replicate (3 - (lg_sl ([.ref (ad 0), .int (nI j), .int k])).length) Slot.unset).toArray = ls at hl ⊢
  have hl : lv_has ls 3 [(0, .ref (ad 0)), (1, .int (nI j)), (2, .int k)] := hl
  refine lv_iload_n hx hb d_M_is_0 rfl (lv_at hl 1 rfl) ?_
  refine lv_if_le (tgt := 26) hx hb d_M_is_1 (by decide) (fun c1 => ?_) (fun c1 => ?_)
  · exact absurd c1 (nI_nle hj0 (by omega))
  · refine lv_iload_n hx hb d_M_is_4 rfl (lv_at hl 1 rfl) ?_
    refine lv_aload_n hx hb d_M_is_5 rfl (lv_at hl 0 rfl) ?_
    refine va_get (D := (dC, dI)) (ci := 1) (v := .int (nI n)) (C := "ClearingBooksModel") (T := T_M) (N := 13) hx hb hts wi_M hown hK hP 0 rfl rfl 1 (by decide) (hts _ kw_274) (fun _ h9 => h9) rfl d_M_is_6 ?_
    refine lv_icmp_ge (tgt := 26) hx hb d_M_is_9 (by decide) (fun c2 => ?_) (fun c2 => ?_)
    · replace c2 := (nI_leI (by omega) (by omega)).mp c2
      exfalso; omega
    · replace c2 := mt (nI_leI (by omega) (by omega)).mpr c2
      refine lv_aload_n hx hb d_M_is_12 rfl (lv_at hl 0 rfl) ?_
      refine va_get (D := (dC, dI)) (ci := 1) (v := .ref (ad 1)) (C := "ClearingBooksModel") (T := T_M) (N := 13) hx hb hts wi_M hown hK hP 0 rfl rfl 2 (by decide) (hts _ kw_275) (fun _ h9 => h9) rfl d_M_is_13 ?_
      refine lv_iload_n hx hb d_M_is_16 rfl (lv_at hl 1 rfl) ?_
      refine xa_iaload (f := ki) hx hb hK hP 1 0 rfl rfl (j := j) (by omega) (by decide) d_M_is_17 ?_
      refine lv_iload_n hx hb d_M_is_18 rfl (lv_at hl 2 rfl) ?_
      refine lv_icmp_ne (tgt := 26) hx hb d_M_is_19 (by decide) (fun c3 => ?_) (fun c3 => ?_)
      · exact absurd hk c3
      · refine lv_iconst (v := nI 1) hx hb d_M_is_22 (by decide) ?_
        refine lv_goto (tgt := 27) hx hb d_M_is_23 (by decide) ?_
        exact W.zret (v := nI 1) hx hb hr rfl (fun t ht hW => ⟨rfl, ht⟩) (fun q hq => by cases hq) d_M_is_27
set_option maxHeartbeats 4000000 in
set_option maxRecDepth 100000 in
theorem m_is_n1 (l : Launch) (dC : Nat → ClassId) (dI : Nat → Nat → Nat) (ad : Nat → Nat) (cI cJ : ClassId) (cd n tc : Nat) (ki ra : Nat → Int32) (po se : Nat → Int64) (bc : Nat → Int32) (bs op : Nat → Int64) (pr pe : Nat → Int32) (pm : Nat → Int64) (x k : Int32) (hno : ¬ (¬ x ≤ 0 ∧ x < nI n)) : Met l y_M_is (.code y_M_is b_M_is 3 (some .boolean) :: wAll) ({ frames := 0, cells := 0, slots := 0, locals := 0 } : Room) (ro_P [.ref (ad 0), .int x, .int k] (dC, dI) vwCl [(cI, .int), (cJ, .long)] (md_w ad cI cJ cd n tc ki ra po se bc bs op pr pe pm) (fun _ => True)) (ro_Q (some (.int (nI 0)))) 0 0 (fun _ => False) := by
  refine Met.ofW (cc := b_M_is) (maxL := 3) (ret := (some .boolean)) (by decide) rfl ?_
  intro p e s m args below meth c s₁ B hml hv
  obtain ⟨rfl, hP, hK, hB⟩ := hv
  have hx := B.exec
  have hb := B.bytes
  have hr := B.returns
  have hts0 := atoms_spec (ws := (.code y_M_is b_M_is 3 (some .boolean) :: wAll)) B.pre
  have hts := hts_all hts0
  have hown : s.vm.findClass "ClearingBooksModel" = some m.cls := findClass_of_methodNamed B.named
  have hlocks := B.notSynchronized
  have hl := lv_entry ([.ref (ad 0), .int x, .int k]) (n := 3) (Nat.le_of_ble_eq_true rfl)
  rw [lg_entry_eq]
  generalize (lg_sl ([.ref (ad 0), .int x, .int k]) ++ List.replicate (3 - (lg_sl ([.ref (ad 0), .int x, .int k])).length) Slot.unset).toArray = ls at hl ⊢
  have hl : lv_has ls 3 [(0, .ref (ad 0)), (1, .int x), (2, .int k)] := hl
  refine lv_iload_n hx hb d_M_is_0 rfl (lv_at hl 1 rfl) ?_
  refine lv_if_le (tgt := 26) hx hb d_M_is_1 (by decide) (fun c1 => ?_) (fun c1 => ?_)
  · refine lv_iconst (v := nI 0) hx hb d_M_is_26 (by decide) ?_
    exact W.zret (v := nI 0) hx hb hr rfl (fun t ht hW => ⟨rfl, ht⟩) (fun q hq => by cases hq) d_M_is_27
  · refine lv_iload_n hx hb d_M_is_4 rfl (lv_at hl 1 rfl) ?_
    refine lv_aload_n hx hb d_M_is_5 rfl (lv_at hl 0 rfl) ?_
    refine va_get (D := (dC, dI)) (ci := 1) (v := .int (nI n)) (C := "ClearingBooksModel") (T := T_M) (N := 13) hx hb hts wi_M hown hK hP 0 rfl rfl 1 (by decide) (hts _ kw_274) (fun _ h9 => h9) rfl d_M_is_6 ?_
    refine lv_icmp_ge (tgt := 26) hx hb d_M_is_9 (by decide) (fun c2 => ?_) (fun c2 => ?_)
    · refine lv_iconst (v := nI 0) hx hb d_M_is_26 (by decide) ?_
      exact W.zret (v := nI 0) hx hb hr rfl (fun t ht hW => ⟨rfl, ht⟩) (fun q hq => by cases hq) d_M_is_27
    · exact absurd ⟨c1, Int32.not_le.mp c2⟩ hno
set_option maxHeartbeats 4000000 in
set_option maxRecDepth 100000 in
theorem m_is_n2 (l : Launch) (dC : Nat → ClassId) (dI : Nat → Nat → Nat) (ad : Nat → Nat) (cI cJ : ClassId) (cd n tc : Nat) (ki ra : Nat → Int32) (po se : Nat → Int64) (bc : Nat → Int32) (bs op : Nat → Int64) (pr pe : Nat → Int32) (pm : Nat → Int64) (j : Nat) (k : Int32) (hj0 : 0 < j) (hj : j < n) (hn : n ≤ 15) (hk : ¬ ki j = k) : Met l y_M_is (.code y_M_is b_M_is 3 (some .boolean) :: wAll) ({ frames := 0, cells := 0, slots := 0, locals := 0 } : Room) (ro_P [.ref (ad 0), .int (nI j), .int k] (dC, dI) vwCl [(cI, .int), (cJ, .long)] (md_w ad cI cJ cd n tc ki ra po se bc bs op pr pe pm) (fun _ => True)) (ro_Q (some (.int (nI 0)))) 0 0 (fun _ => False) := by
  refine Met.ofW (cc := b_M_is) (maxL := 3) (ret := (some .boolean)) (by decide) rfl ?_
  intro p e s m args below meth c s₁ B hml hv
  obtain ⟨rfl, hP, hK, hB⟩ := hv
  have hx := B.exec
  have hb := B.bytes
  have hr := B.returns
  have hts0 := atoms_spec (ws := (.code y_M_is b_M_is 3 (some .boolean) :: wAll)) B.pre
  have hts := hts_all hts0
  have hown : s.vm.findClass "ClearingBooksModel" = some m.cls := findClass_of_methodNamed B.named
  have hlocks := B.notSynchronized
  have hl := lv_entry ([.ref (ad 0), .int (nI j), .int k]) (n := 3) (Nat.le_of_ble_eq_true rfl)
  rw [lg_entry_eq]
  generalize (lg_sl ([.ref (ad 0), .int (nI j), .int k]) ++ List.replicate (3 - (lg_sl ([.ref (ad 0), .int (nI j), .int k])).length) Slot.unset).toArray = ls at hl ⊢
  have hl : lv_has ls 3 [(0, .ref (ad 0)), (1, .int (nI j)), (2, .int k)] := hl
  refine lv_iload_n hx hb d_M_is_0 rfl (lv_at hl 1 rfl) ?_
  refine lv_if_le (tgt := 26) hx hb d_M_is_1 (by decide) (fun c1 => ?_) (fun c1 => ?_)
  · exact absurd c1 (nI_nle hj0 (by omega))
  · refine lv_iload_n hx hb d_M_is_4 rfl (lv_at hl 1 rfl) ?_
    refine lv_aload_n hx hb d_M_is_5 rfl (lv_at hl 0 rfl) ?_
    refine va_get (D := (dC, dI)) (ci := 1) (v := .int (nI n)) (C := "ClearingBooksModel") (T := T_M) (N := 13) hx hb hts wi_M hown hK hP 0 rfl rfl 1 (by decide) (hts _ kw_274) (fun _ h9 => h9) rfl d_M_is_6 ?_
    refine lv_icmp_ge (tgt := 26) hx hb d_M_is_9 (by decide) (fun c2 => ?_) (fun c2 => ?_)
    · replace c2 := (nI_leI (by omega) (by omega)).mp c2
      exfalso; omega
    · replace c2 := mt (nI_leI (by omega) (by omega)).mpr c2
      refine lv_aload_n hx hb d_M_is_12 rfl (lv_at hl 0 rfl) ?_
      refine va_get (D := (dC, dI)) (ci := 1) (v := .ref (ad 1)) (C := "ClearingBooksModel") (T := T_M) (N := 13) hx hb hts wi_M hown hK hP 0 rfl rfl 2 (by decide) (hts _ kw_275) (fun _ h9 => h9) rfl d_M_is_13 ?_
      refine lv_iload_n hx hb d_M_is_16 rfl (lv_at hl 1 rfl) ?_
      refine xa_iaload (f := ki) hx hb hK hP 1 0 rfl rfl (j := j) (by omega) (by decide) d_M_is_17 ?_
      refine lv_iload_n hx hb d_M_is_18 rfl (lv_at hl 2 rfl) ?_
      refine lv_icmp_ne (tgt := 26) hx hb d_M_is_19 (by decide) (fun c3 => ?_) (fun c3 => ?_)
      · refine lv_iconst (v := nI 0) hx hb d_M_is_26 (by decide) ?_
        exact W.zret (v := nI 0) hx hb hr rfl (fun t ht hW => ⟨rfl, ht⟩) (fun q hq => by cases hq) d_M_is_27
      · exact absurd c3 hk
set_option maxHeartbeats 4000000 in
set_option maxRecDepth 100000 in
theorem m_is_n (l : Launch) (dC : Nat → ClassId) (dI : Nat → Nat → Nat) (ad : Nat → Nat) (cI cJ : ClassId) (cd n tc : Nat) (ki ra : Nat → Int32) (po se : Nat → Int64) (bc : Nat → Int32) (bs op : Nat → Int64) (pr pe : Nat → Int32) (pm : Nat → Int64) (x k : Int32) (hn : n ≤ 15) (hno : ¬ is_k n ki x k) : Met l y_M_is (.code y_M_is b_M_is 3 (some .boolean) :: wAll) ({ frames := 0, cells := 0, slots := 0, locals := 0 } : Room) (ro_P [.ref (ad 0), .int x, .int k] (dC, dI) vwCl [(cI, .int), (cJ, .long)] (md_w ad cI cJ cd n tc ki ra po se bc bs op pr pe pm) (fun _ => True)) (ro_Q (some (.int (nI 0)))) 0 0 (fun _ => False) := by
  by_cases h : ¬ x ≤ 0 ∧ x < nI n
  · obtain ⟨j, hj, rfl⟩ := nI_of (x := x) (fun z => h.1 (Int32.le_of_lt z))
    have hjn : j < n := (nI_ltI hj (by omega)).mp h.2
    have hj0 : 0 < j := by
      rcases Nat.eq_zero_or_pos j with z | z
      · exfalso; rw [z] at h; exact h.1 (by decide)
      · exact z
    exact m_is_n2 l dC dI ad cI cJ cd n tc ki ra po se bc bs op pr pe pm j k hj0 hjn hn (fun h9 => hno ⟨j, hjn, rfl, h9⟩)
  · exact m_is_n1 l dC dI ad cI cJ cd n tc ki ra po se bc bs op pr pe pm x k h
set_option maxHeartbeats 4000000 in
set_option maxRecDepth 100000 in
theorem m_goes_y (l : Launch) (dC : Nat → ClassId) (dI : Nat → Nat → Nat) (ad : Nat → Nat) (cI cJ : ClassId) (cd n tc : Nat) (ki ra : Nat → Int32) (po se : Nat → Int64) (bc : Nat → Int32) (bs op : Nat → Int64) (pr pe : Nat → Int32) (pm : Nat → Int64) (sz : Nat)  : Met l y_M_goes (.code y_M_goes b_M_goes 2 (some .boolean) :: wAll) ({ frames := 0, cells := 0, slots := 0, locals := 0 } : Room) (mu_P [.ref (ad 0), .int (nI 1)] (dC, dI) vwCl [(cI, .int), (cJ, .long)] (md_w ad cI cJ cd n tc ki ra po se bc bs op pr pe pm) sz) (va_Qi (fun (z : Int32) (_ : Unit) => z = nI 1) (mu_B (dC, dI) vwCl [(cI, .int), (cJ, .long)] (va_A (md_w ad cI cJ cd n tc ki ra po se bc bs op pr pe pm) sz) (md_w ad cI cJ 0 n tc ki ra po se bc bs op pr pe pm)) (va_A (md_w ad cI cJ cd n tc ki ra po se bc bs op pr pe pm) sz)) 0 0 (va_A (md_w ad cI cJ cd n tc ki ra po se bc bs op pr pe pm) sz) := by
  refine Met.ofW (cc := b_M_goes) (maxL := 2) (ret := (some .boolean)) (by decide) rfl ?_
  intro p e s m args below meth c s₁ B hml hv
  obtain ⟨rfl, hsz, hP, hK, hD0⟩ := hv
  have hx := B.exec
  have hb := B.bytes
  have hr := B.returns
  have hts0 := atoms_spec (ws := (.code y_M_goes b_M_goes 2 (some .boolean) :: wAll)) B.pre
  have hts := hts_all hts0
  have hown : s.vm.findClass "ClearingBooksModel" = some m.cls := findClass_of_methodNamed B.named
  have hlocks := B.notSynchronized
  subst hsz
  have hD := hD0.self (sz := s.heap.size)
  generalize hAe : va_A (md_w ad cI cJ cd n tc ki ra po se bc bs op pr pe pm) s.heap.size = A at hD ⊢
  have hA : ∀ q : Nat, s.heap.size ≤ q → A q := fun q h => by rw [← hAe]; exact Or.inr h
  have hS : va_S A s.heap s.heap [] := va_S.rf
  have hl := lv_entry ([.ref (ad 0), .int (nI 1)]) (n := 2) (Nat.le_of_ble_eq_true rfl)
  rw [lg_entry_eq]
  generalize (lg_sl ([.ref (ad 0), .int (nI 1)]) ++ List.replicate (2 - (lg_sl ([.ref (ad 0), .int (nI 1)])).length) Slot.unset).toArray = ls at hl ⊢
  have hl : lv_has ls 2 [(0, .ref (ad 0)), (1, .int (nI 1))] := hl
  refine lv_aload_n hx hb d_M_goes_0 rfl (lv_at hl 0 rfl) ?_
  refine lv_iload_n hx hb d_M_goes_1 rfl (lv_at hl 1 rfl) ?_
  refine lv_if_eq (tgt := 9) hx hb d_M_goes_2 (by decide) (fun c1 => ?_) (fun c1 => ?_)
  · exact absurd c1 (by decide)
  · refine lv_iconst (v := nI 0) hx hb d_M_goes_5 (by decide) ?_
    refine lv_goto (tgt := 10) hx hb d_M_goes_6 (by decide) ?_
    refine va_put (D := (dC, dI)) (ci := 1) (v := .int (nI 0)) (ty := .int) (C := "ClearingBooksModel") (T := T_M) (N := 13) hx hb hts wi_M ty_M tyok_M nm_M hown hK hP hD hS 0 rfl rfl 0 (by decide) (hts _ kw_273) (fun _ h9 => h9) rfl (by decide +kernel) rfl rfl (Nat.le_of_ble_eq_true rfl) d_M_goes_10 (fun H locs hP hD hS => ?_)
    have hP : va_P (dC, dI) vwCl (md_w ad cI cJ 0 n tc ki ra po se bc bs op pr pe pm) H := hP
    have hD : va_D A (md_w ad cI cJ 0 n tc ki ra po se bc bs op pr pe pm) := hD
    refine lv_iload_n hx hb d_M_goes_13 rfl (lv_at hl 1 rfl) ?_
    exact W.zret (v := nI 1) hx hb hr rfl (fun t ht hW => ⟨⟨nI 1, (), rfl, rfl, by rw [ht]; exact hP, va_K.moved hW.alike hK, hD⟩, hS.F ht⟩) hS.2.2 d_M_goes_14
set_option maxHeartbeats 4000000 in
set_option maxRecDepth 100000 in
theorem m_goes_n (l : Launch) (dC : Nat → ClassId) (dI : Nat → Nat → Nat) (ad : Nat → Nat) (cI cJ : ClassId) (cd n tc : Nat) (ki ra : Nat → Int32) (po se : Nat → Int64) (bc : Nat → Int32) (bs op : Nat → Int64) (pr pe : Nat → Int32) (pm : Nat → Int64) (sz : Nat)  : Met l y_M_goes (.code y_M_goes b_M_goes 2 (some .boolean) :: wAll) ({ frames := 0, cells := 0, slots := 0, locals := 0 } : Room) (mu_P [.ref (ad 0), .int (nI 0)] (dC, dI) vwCl [(cI, .int), (cJ, .long)] (md_w ad cI cJ cd n tc ki ra po se bc bs op pr pe pm) sz) (va_Qi (fun (z : Int32) (_ : Unit) => z = nI 0) (mu_B (dC, dI) vwCl [(cI, .int), (cJ, .long)] (va_A (md_w ad cI cJ cd n tc ki ra po se bc bs op pr pe pm) sz) (md_w ad cI cJ 1 n tc ki ra po se bc bs op pr pe pm)) (va_A (md_w ad cI cJ cd n tc ki ra po se bc bs op pr pe pm) sz)) 0 0 (va_A (md_w ad cI cJ cd n tc ki ra po se bc bs op pr pe pm) sz) := by
  refine Met.ofW (cc := b_M_goes) (maxL := 2) (ret := (some .boolean)) (by decide) rfl ?_
  intro p e s m args below meth c s₁ B hml hv
  obtain ⟨rfl, hsz, hP, hK, hD0⟩ := hv
  have hx := B.exec
  have hb := B.bytes
  have hr := B.returns
  have hts0 := atoms_spec (ws := (.code y_M_goes b_M_goes 2 (some .boolean) :: wAll)) B.pre
  have hts := hts_all hts0
  have hown : s.vm.findClass "ClearingBooksModel" = some m.cls := findClass_of_methodNamed B.named
  have hlocks := B.notSynchronized
  subst hsz
  have hD := hD0.self (sz := s.heap.size)
  generalize hAe : va_A (md_w ad cI cJ cd n tc ki ra po se bc bs op pr pe pm) s.heap.size = A at hD ⊢
  have hA : ∀ q : Nat, s.heap.size ≤ q → A q := fun q h => by rw [← hAe]; exact Or.inr h
  have hS : va_S A s.heap s.heap [] := va_S.rf
  have hl := lv_entry ([.ref (ad 0), .int (nI 0)]) (n := 2) (Nat.le_of_ble_eq_true rfl)
  rw [lg_entry_eq]
  generalize (lg_sl ([.ref (ad 0), .int (nI 0)]) ++ List.replicate (2 - (lg_sl ([.ref (ad 0), .int (nI 0)])).length) Slot.unset).toArray = ls at hl ⊢
  have hl : lv_has ls 2 [(0, .ref (ad 0)), (1, .int (nI 0))] := hl
  refine lv_aload_n hx hb d_M_goes_0 rfl (lv_at hl 0 rfl) ?_
  refine lv_iload_n hx hb d_M_goes_1 rfl (lv_at hl 1 rfl) ?_
  refine lv_if_eq (tgt := 9) hx hb d_M_goes_2 (by decide) (fun c1 => ?_) (fun c1 => ?_)
  · refine lv_iconst (v := nI 1) hx hb d_M_goes_9 (by decide) ?_
    refine va_put (D := (dC, dI)) (ci := 1) (v := .int (nI 1)) (ty := .int) (C := "ClearingBooksModel") (T := T_M) (N := 13) hx hb hts wi_M ty_M tyok_M nm_M hown hK hP hD hS 0 rfl rfl 0 (by decide) (hts _ kw_273) (fun _ h9 => h9) rfl (by decide +kernel) rfl rfl (Nat.le_of_ble_eq_true rfl) d_M_goes_10 (fun H locs hP hD hS => ?_)
    have hP : va_P (dC, dI) vwCl (md_w ad cI cJ 1 n tc ki ra po se bc bs op pr pe pm) H := hP
    have hD : va_D A (md_w ad cI cJ 1 n tc ki ra po se bc bs op pr pe pm) := hD
    refine lv_iload_n hx hb d_M_goes_13 rfl (lv_at hl 1 rfl) ?_
    exact W.zret (v := nI 0) hx hb hr rfl (fun t ht hW => ⟨⟨nI 0, (), rfl, rfl, by rw [ht]; exact hP, va_K.moved hW.alike hK, hD⟩, hS.F ht⟩) hS.2.2 d_M_goes_14
  · exact absurd rfl c1
set_option maxHeartbeats 4000000 in
set_option maxRecDepth 100000 in
theorem m_come_y (l : Launch) (dC : Nat → ClassId) (dI : Nat → Nat → Nat) (ad : Nat → Nat) (cI cJ : ClassId) (cd n tc : Nat) (ki ra : Nat → Int32) (po se : Nat → Int64) (bc : Nat → Int32) (bs op : Nat → Int64) (pr pe : Nat → Int32) (pm : Nat → Int64) (sz : Nat) (k : Int32) (r : Nat) (hr0 : r ≤ 1000) (hn : n < 15) : Met l y_M_come (.code y_M_come b_M_come 3 (some .int) :: wAll) ({ frames := 0, cells := 0, slots := 0, locals := 0 } : Room) (mu_P [.ref (ad 0), .int k, .int (nI r)] (dC, dI) vwCl [(cI, .int), (cJ, .long)] (md_w ad cI cJ cd n tc ki ra po se bc bs op pr pe pm) sz) (va_Qi (fun (z : Int32) (_ : Unit) => z = nI n) (mu_B (dC, dI) vwCl [(cI, .int), (cJ, .long)] (va_A (md_w ad cI cJ cd n tc ki ra po se bc bs op pr pe pm) sz) (md_w ad cI cJ 0 (n + 1) tc (upd ki n k) (upd ra n (nI r)) po se bc bs op pr pe pm)) (va_A (md_w ad cI cJ cd n tc ki ra po se bc bs op pr pe pm) sz)) 0 0 (va_A (md_w ad cI cJ cd n tc ki ra po se bc bs op pr pe pm) sz) := by
  refine Met.ofW (cc := b_M_come) (maxL := 3) (ret := (some .int)) (by decide) rfl ?_
  intro p e s m args below meth c s₁ B hml hv
  obtain ⟨rfl, hsz, hP, hK, hD0⟩ := hv
  have hx := B.exec
  have hb := B.bytes
  have hr := B.returns
  have hts0 := atoms_spec (ws := (.code y_M_come b_M_come 3 (some .int) :: wAll)) B.pre
  have hts := hts_all hts0
  have hown : s.vm.findClass "ClearingBooksModel" = some m.cls := findClass_of_methodNamed B.named
  have hlocks := B.notSynchronized
  subst hsz
  have hD := hD0.self (sz := s.heap.size)
  generalize hAe : va_A (md_w ad cI cJ cd n tc ki ra po se bc bs op pr pe pm) s.heap.size = A at hD ⊢
  have hA : ∀ q : Nat, s.heap.size ≤ q → A q := fun q h => by rw [← hAe]; exact Or.inr h
  have hS : va_S A s.heap s.heap [] := va_S.rf
  have hl := lv_entry ([.ref (ad 0), .int k, .int (nI r)]) (n := 3) (Nat.le_of_ble_eq_true rfl)
  rw [lg_entry_eq]
  generalize (lg_sl ([.ref (ad 0), .int k, .int (nI r)]) ++ List.replicate (3 - (lg_sl ([.ref (ad 0), .int k, .int (nI r)])).length) Slot.unset).toArray = ls at hl ⊢
  have hl : lv_has ls 3 [(0, .ref (ad 0)), (1, .int k), (2, .int (nI r))] := hl
  refine lv_aload_n hx hb d_M_come_0 rfl (lv_at hl 0 rfl) ?_
  refine lv_iload_n hx hb d_M_come_1 rfl (lv_at hl 2 rfl) ?_
  refine lv_if_lt (tgt := 12) hx hb d_M_come_2 (by decide) (fun c1 => ?_) (fun c1 => ?_)
  · exact absurd c1 (nI_pos (by omega))
  · refine lv_iload_n hx hb d_M_come_5 rfl (lv_at hl 2 rfl) ?_
    refine lv_sipush (v := nI 1000) hx hb d_M_come_6 (by decide) ?_
    refine lv_icmp_le (tgt := 16) hx hb d_M_come_9 (by decide) (fun c2 => ?_) (fun c2 => ?_)
    · replace c2 := (nI_leI (by omega) (by omega)).mp c2
      refine lv_aload_n hx hb d_M_come_16 rfl (lv_at hl 0 rfl) ?_
      refine va_get (D := (dC, dI)) (ci := 1) (v := .int (nI n)) (C := "ClearingBooksModel") (T := T_M) (N := 13) hx hb hts wi_M hown hK hP 0 rfl rfl 1 (by decide) (hts _ kw_274) (fun _ h9 => h9) rfl d_M_come_17 ?_
      refine lv_bipush (v := nI 15) hx hb d_M_come_20 (by decide) ?_
      refine lv_icmp_ne (tgt := 29) hx hb d_M_come_22 (by decide) (fun c3 => ?_) (fun c3 => ?_)
      · replace c3 := mt (nI_eq (by omega) (by omega)).mpr c3
        refine lv_iconst (v := nI 0) hx hb d_M_come_29 (by decide) ?_
        refine va_put (D := (dC, dI)) (ci := 1) (v := .int (nI 0)) (ty := .int) (C := "ClearingBooksModel") (T := T_M) (N := 13) hx hb hts wi_M ty_M tyok_M nm_M hown hK hP hD hS 0 rfl rfl 0 (by decide) (hts _ kw_273) (fun _ h9 => h9) rfl (by decide +kernel) rfl rfl (Nat.le_of_ble_eq_true rfl) d_M_come_30 (fun H locs hP hD hS => ?_)
        have hP : va_P (dC, dI) vwCl (md_w ad cI cJ 0 n tc ki ra po se bc bs op pr pe pm) H := hP
        have hD : va_D A (md_w ad cI cJ 0 n tc ki ra po se bc bs op pr pe pm) := hD
        refine lv_aload_n hx hb d_M_come_33 rfl (lv_at hl 0 rfl) ?_
        refine va_get (D := (dC, dI)) (ci := 1) (v := .int (nI 0)) (C := "ClearingBooksModel") (T := T_M) (N := 13) hx hb hts wi_M hown hK hP 0 rfl rfl 0 (by decide) (hts _ kw_273) (fun _ h9 => h9) rfl d_M_come_34 ?_
        refine lv_if_le (tgt := 42) hx hb d_M_come_37 (by decide) (fun c4 => ?_) (fun c4 => ?_)
        · refine lv_aload_n hx hb d_M_come_42 rfl (lv_at hl 0 rfl) ?_
          refine va_get (D := (dC, dI)) (ci := 1) (v := .ref (ad 1)) (C := "ClearingBooksModel") (T := T_M) (N := 13) hx hb hts wi_M hown hK hP 0 rfl rfl 2 (by decide) (hts _ kw_275) (fun _ h9 => h9) rfl d_M_come_43 ?_
          refine lv_aload_n hx hb d_M_come_46 rfl (lv_at hl 0 rfl) ?_
          refine va_get (D := (dC, dI)) (ci := 1) (v := .int (nI n)) (C := "ClearingBooksModel") (T := T_M) (N := 13) hx hb hts wi_M hown hK hP 0 rfl rfl 1 (by decide) (hts _ kw_274) (fun _ h9 => h9) rfl d_M_come_47 ?_
          refine lv_iload_n hx hb d_M_come_50 rfl (lv_at hl 1 rfl) ?_
          refine xa_iastore (f := ki) (x := k) hx hb hK hP hD hS 1 0 rfl rfl (j := n) (by omega) (by decide) d_M_come_51 (fun H locs hP hD hS => ?_)
          have hP : va_P (dC, dI) vwCl (md_w ad cI cJ 0 n tc (upd ki n k) ra po se bc bs op pr pe pm) H := hP
          have hD : va_D A (md_w ad cI cJ 0 n tc (upd ki n k) ra po se bc bs op pr pe pm) := hD
          refine lv_aload_n hx hb d_M_come_52 rfl (lv_at hl 0 rfl) ?_
          refine va_get (D := (dC, dI)) (ci := 1) (v := .ref (ad 2)) (C := "ClearingBooksModel") (T := T_M) (N := 13) hx hb hts wi_M hown hK hP 0 rfl rfl 3 (by decide) (hts _ kw_276) (fun _ h9 => h9) rfl d_M_come_53 ?_
          refine lv_aload_n hx hb d_M_come_56 rfl (lv_at hl 0 rfl) ?_
          refine va_get (D := (dC, dI)) (ci := 1) (v := .int (nI n)) (C := "ClearingBooksModel") (T := T_M) (N := 13) hx hb hts wi_M hown hK hP 0 rfl rfl 1 (by decide) (hts _ kw_274) (fun _ h9 => h9) rfl d_M_come_57 ?_
          refine lv_iload_n hx hb d_M_come_60 rfl (lv_at hl 2 rfl) ?_
          refine xa_iastore (f := ra) (x := nI r) hx hb hK hP hD hS 2 0 rfl rfl (j := n) (by omega) (by decide) d_M_come_61 (fun H locs hP hD hS => ?_)
          have hP : va_P (dC, dI) vwCl (md_w ad cI cJ 0 n tc (upd ki n k) (upd ra n (nI r)) po se bc bs op pr pe pm) H := hP
          have hD : va_D A (md_w ad cI cJ 0 n tc (upd ki n k) (upd ra n (nI r)) po se bc bs op pr pe pm) := hD
          refine lv_aload_n hx hb d_M_come_62 rfl (lv_at hl 0 rfl) ?_
          refine lv_dup hx hb d_M_come_63 rfl ?_
          refine va_get (D := (dC, dI)) (ci := 1) (v := .int (nI n)) (C := "ClearingBooksModel") (T := T_M) (N := 13) hx hb hts wi_M hown hK hP 0 rfl rfl 1 (by decide) (hts _ kw_274) (fun _ h9 => h9) rfl d_M_come_64 ?_
          refine lv_iconst (v := nI 1) hx hb d_M_come_67 (by decide) ?_
          refine t_iadd hx hb d_M_come_68 (v := nI (n + 1)) (nI_add n 1) ?_
          refine va_put (D := (dC, dI)) (ci := 1) (v := .int (nI (n + 1))) (ty := .int) (C := "ClearingBooksModel") (T := T_M) (N := 13) hx hb hts wi_M ty_M tyok_M nm_M hown hK hP hD hS 0 rfl rfl 1 (by decide) (hts _ kw_274) (fun _ h9 => h9) rfl (by decide +kernel) rfl rfl (Nat.le_of_ble_eq_true rfl) d_M_come_69 (fun H locs hP hD hS => ?_)
          have hP : va_P (dC, dI) vwCl (md_w ad cI cJ 0 (n + 1) tc (upd ki n k) (upd ra n (nI r)) po se bc bs op pr pe pm) H := hP
          have hD : va_D A (md_w ad cI cJ 0 (n + 1) tc (upd ki n k) (upd ra n (nI r)) po se bc bs op pr pe pm) := hD
          refine lv_aload_n hx hb d_M_come_72 rfl (lv_at hl 0 rfl) ?_
          refine va_get (D := (dC, dI)) (ci := 1) (v := .int (nI (n + 1))) (C := "ClearingBooksModel") (T := T_M) (N := 13) hx hb hts wi_M hown hK hP 0 rfl rfl 1 (by decide) (hts _ kw_274) (fun _ h9 => h9) rfl d_M_come_73 ?_
          refine lv_iconst (v := nI 1) hx hb d_M_come_76 (by decide) ?_
          refine lv_isub hx hb d_M_come_77 ?_
          exact W.iret (v := (nI (n + 1)) - (nI 1)) hx hb hr (fun t ht hW => ⟨⟨(nI (n + 1)) - (nI 1), (), rfl, nI_pred n, by rw [ht]; exact hP, va_K.moved hW.alike hK, hD⟩, hS.F ht⟩) hS.2.2 d_M_come_78
        · exact absurd (by decide) c4
      · replace c3 := (nI_eq (by omega) (by omega)).mp c3
        exfalso; omega
    · replace c2 := mt (nI_leI (by omega) (by omega)).mpr c2
      exact absurd hr0 c2
set_option maxHeartbeats 4000000 in
set_option maxRecDepth 100000 in
theorem m_come_ta (l : Launch) (dC : Nat → ClassId) (dI : Nat → Nat → Nat) (ad : Nat → Nat) (cI cJ : ClassId) (cd n tc : Nat) (ki ra : Nat → Int32) (po se : Nat → Int64) (bc : Nat → Int32) (bs op : Nat → Int64) (pr pe : Nat → Int32) (pm : Nat → Int64) (sz : Nat) (k x : Int32) (hno : ¬ (¬ x < 0 ∧ x ≤ nI 1000)) : Met l y_M_come (.code y_M_come b_M_come 3 (some .int) :: wAll) ({ frames := 0, cells := 0, slots := 0, locals := 0 } : Room) (mu_P [.ref (ad 0), .int k, .int x] (dC, dI) vwCl [(cI, .int), (cJ, .long)] (md_w ad cI cJ cd n tc ki ra po se bc bs op pr pe pm) sz) (va_Qi (fun (z : Int32) (_ : Unit) => z = nI 0) (mu_B (dC, dI) vwCl [(cI, .int), (cJ, .long)] (va_A (md_w ad cI cJ cd n tc ki ra po se bc bs op pr pe pm) sz) (md_w ad cI cJ 1 n tc ki ra po se bc bs op pr pe pm)) (va_A (md_w ad cI cJ cd n tc ki ra po se bc bs op pr pe pm) sz)) 0 0 (va_A (md_w ad cI cJ cd n tc ki ra po se bc bs op pr pe pm) sz) := by
  refine Met.ofW (cc := b_M_come) (maxL := 3) (ret := (some .int)) (by decide) rfl ?_
  intro p e s m args below meth c s₁ B hml hv
  obtain ⟨rfl, hsz, hP, hK, hD0⟩ := hv
  have hx := B.exec
  have hb := B.bytes
  have hr := B.returns
  have hts0 := atoms_spec (ws := (.code y_M_come b_M_come 3 (some .int) :: wAll)) B.pre
  have hts := hts_all hts0
  have hown : s.vm.findClass "ClearingBooksModel" = some m.cls := findClass_of_methodNamed B.named
  have hlocks := B.notSynchronized
  subst hsz
  have hD := hD0.self (sz := s.heap.size)
  generalize hAe : va_A (md_w ad cI cJ cd n tc ki ra po se bc bs op pr pe pm) s.heap.size = A at hD ⊢
  have hA : ∀ q : Nat, s.heap.size ≤ q → A q := fun q h => by rw [← hAe]; exact Or.inr h
  have hS : va_S A s.heap s.heap [] := va_S.rf
  have hl := lv_entry ([.ref (ad 0), .int k, .int x]) (n := 3) (Nat.le_of_ble_eq_true rfl)
  rw [lg_entry_eq]
  generalize (lg_sl ([.ref (ad 0), .int k, .int x]) ++ List.replicate (3 - (lg_sl ([.ref (ad 0), .int k, .int x])).length) Slot.unset).toArray = ls at hl ⊢
  have hl : lv_has ls 3 [(0, .ref (ad 0)), (1, .int k), (2, .int x)] := hl
  refine lv_aload_n hx hb d_M_come_0 rfl (lv_at hl 0 rfl) ?_
  refine lv_iload_n hx hb d_M_come_1 rfl (lv_at hl 2 rfl) ?_
  refine lv_if_lt (tgt := 12) hx hb d_M_come_2 (by decide) (fun c1 => ?_) (fun c1 => ?_)
  · refine lv_iconst (v := nI 1) hx hb d_M_come_12 (by decide) ?_
    refine lv_goto (tgt := 30) hx hb d_M_come_13 (by decide) ?_
    refine va_put (D := (dC, dI)) (ci := 1) (v := .int (nI 1)) (ty := .int) (C := "ClearingBooksModel") (T := T_M) (N := 13) hx hb hts wi_M ty_M tyok_M nm_M hown hK hP hD hS 0 rfl rfl 0 (by decide) (hts _ kw_273) (fun _ h9 => h9) rfl (by decide +kernel) rfl rfl (Nat.le_of_ble_eq_true rfl) d_M_come_30 (fun H locs hP hD hS => ?_)
    have hP : va_P (dC, dI) vwCl (md_w ad cI cJ 1 n tc ki ra po se bc bs op pr pe pm) H := hP
    have hD : va_D A (md_w ad cI cJ 1 n tc ki ra po se bc bs op pr pe pm) := hD
    refine lv_aload_n hx hb d_M_come_33 rfl (lv_at hl 0 rfl) ?_
    refine va_get (D := (dC, dI)) (ci := 1) (v := .int (nI 1)) (C := "ClearingBooksModel") (T := T_M) (N := 13) hx hb hts wi_M hown hK hP 0 rfl rfl 0 (by decide) (hts _ kw_273) (fun _ h9 => h9) rfl d_M_come_34 ?_
    refine lv_if_le (tgt := 42) hx hb d_M_come_37 (by decide) (fun c2 => ?_) (fun c2 => ?_)
    · exact absurd c2 (by decide)
    · refine lv_iconst (v := nI 0) hx hb d_M_come_40 (by decide) ?_
      exact W.iret (v := nI 0) hx hb hr (fun t ht hW => ⟨⟨nI 0, (), rfl, rfl, by rw [ht]; exact hP, va_K.moved hW.alike hK, hD⟩, hS.F ht⟩) hS.2.2 d_M_come_41
  · refine lv_iload_n hx hb d_M_come_5 rfl (lv_at hl 2 rfl) ?_
    refine lv_sipush (v := nI 1000) hx hb d_M_come_6 (by decide) ?_
    refine lv_icmp_le (tgt := 16) hx hb d_M_come_9 (by decide) (fun c3 => ?_) (fun c3 => ?_)
    · exact absurd ⟨c1, c3⟩ hno
    · refine lv_iconst (v := nI 1) hx hb d_M_come_12 (by decide) ?_
      refine lv_goto (tgt := 30) hx hb d_M_come_13 (by decide) ?_
      refine va_put (D := (dC, dI)) (ci := 1) (v := .int (nI 1)) (ty := .int) (C := "ClearingBooksModel") (T := T_M) (N := 13) hx hb hts wi_M ty_M tyok_M nm_M hown hK hP hD hS 0 rfl rfl 0 (by decide) (hts _ kw_273) (fun _ h9 => h9) rfl (by decide +kernel) rfl rfl (Nat.le_of_ble_eq_true rfl) d_M_come_30 (fun H locs hP hD hS => ?_)
      have hP : va_P (dC, dI) vwCl (md_w ad cI cJ 1 n tc ki ra po se bc bs op pr pe pm) H := hP
      have hD : va_D A (md_w ad cI cJ 1 n tc ki ra po se bc bs op pr pe pm) := hD
      refine lv_aload_n hx hb d_M_come_33 rfl (lv_at hl 0 rfl) ?_
      refine va_get (D := (dC, dI)) (ci := 1) (v := .int (nI 1)) (C := "ClearingBooksModel") (T := T_M) (N := 13) hx hb hts wi_M hown hK hP 0 rfl rfl 0 (by decide) (hts _ kw_273) (fun _ h9 => h9) rfl d_M_come_34 ?_
      refine lv_if_le (tgt := 42) hx hb d_M_come_37 (by decide) (fun c4 => ?_) (fun c4 => ?_)
      · exact absurd c4 (by decide)
      · refine lv_iconst (v := nI 0) hx hb d_M_come_40 (by decide) ?_
        exact W.iret (v := nI 0) hx hb hr (fun t ht hW => ⟨⟨nI 0, (), rfl, rfl, by rw [ht]; exact hP, va_K.moved hW.alike hK, hD⟩, hS.F ht⟩) hS.2.2 d_M_come_41
set_option maxHeartbeats 4000000 in
set_option maxRecDepth 100000 in
theorem m_come_ts (l : Launch) (dC : Nat → ClassId) (dI : Nat → Nat → Nat) (ad : Nat → Nat) (cI cJ : ClassId) (cd n tc : Nat) (ki ra : Nat → Int32) (po se : Nat → Int64) (bc : Nat → Int32) (bs op : Nat → Int64) (pr pe : Nat → Int32) (pm : Nat → Int64) (sz : Nat) (k : Int32) (r : Nat) (hr0 : r ≤ 1000) (hn : n = 15) : Met l y_M_come (.code y_M_come b_M_come 3 (some .int) :: wAll) ({ frames := 0, cells := 0, slots := 0, locals := 0 } : Room) (mu_P [.ref (ad 0), .int k, .int (nI r)] (dC, dI) vwCl [(cI, .int), (cJ, .long)] (md_w ad cI cJ cd n tc ki ra po se bc bs op pr pe pm) sz) (va_Qi (fun (z : Int32) (_ : Unit) => z = nI 0) (mu_B (dC, dI) vwCl [(cI, .int), (cJ, .long)] (va_A (md_w ad cI cJ cd n tc ki ra po se bc bs op pr pe pm) sz) (md_w ad cI cJ 2 n tc ki ra po se bc bs op pr pe pm)) (va_A (md_w ad cI cJ cd n tc ki ra po se bc bs op pr pe pm) sz)) 0 0 (va_A (md_w ad cI cJ cd n tc ki ra po se bc bs op pr pe pm) sz) := by
  refine Met.ofW (cc := b_M_come) (maxL := 3) (ret := (some .int)) (by decide) rfl ?_
  intro p e s m args below meth c s₁ B hml hv
  obtain ⟨rfl, hsz, hP, hK, hD0⟩ := hv
  have hx := B.exec
  have hb := B.bytes
  have hr := B.returns
  have hts0 := atoms_spec (ws := (.code y_M_come b_M_come 3 (some .int) :: wAll)) B.pre
  have hts := hts_all hts0
  have hown : s.vm.findClass "ClearingBooksModel" = some m.cls := findClass_of_methodNamed B.named
  have hlocks := B.notSynchronized
  subst hsz
  have hD := hD0.self (sz := s.heap.size)
  generalize hAe : va_A (md_w ad cI cJ cd n tc ki ra po se bc bs op pr pe pm) s.heap.size = A at hD ⊢
  have hA : ∀ q : Nat, s.heap.size ≤ q → A q := fun q h => by rw [← hAe]; exact Or.inr h
  have hS : va_S A s.heap s.heap [] := va_S.rf
  have hl := lv_entry ([.ref (ad 0), .int k, .int (nI r)]) (n := 3) (Nat.le_of_ble_eq_true rfl)
  rw [lg_entry_eq]
  generalize (lg_sl ([.ref (ad 0), .int k, .int (nI r)]) ++ List.replicate (3 - (lg_sl ([.ref (ad 0), .int k, .int (nI r)])).length) Slot.unset).toArray = ls at hl ⊢
  have hl : lv_has ls 3 [(0, .ref (ad 0)), (1, .int k), (2, .int (nI r))] := hl
  refine lv_aload_n hx hb d_M_come_0 rfl (lv_at hl 0 rfl) ?_
  refine lv_iload_n hx hb d_M_come_1 rfl (lv_at hl 2 rfl) ?_
  refine lv_if_lt (tgt := 12) hx hb d_M_come_2 (by decide) (fun c1 => ?_) (fun c1 => ?_)
  · exact absurd c1 (nI_pos (by omega))
  · refine lv_iload_n hx hb d_M_come_5 rfl (lv_at hl 2 rfl) ?_
    refine lv_sipush (v := nI 1000) hx hb d_M_come_6 (by decide) ?_
    refine lv_icmp_le (tgt := 16) hx hb d_M_come_9 (by decide) (fun c2 => ?_) (fun c2 => ?_)
    · replace c2 := (nI_leI (by omega) (by omega)).mp c2
      refine lv_aload_n hx hb d_M_come_16 rfl (lv_at hl 0 rfl) ?_
      refine va_get (D := (dC, dI)) (ci := 1) (v := .int (nI n)) (C := "ClearingBooksModel") (T := T_M) (N := 13) hx hb hts wi_M hown hK hP 0 rfl rfl 1 (by decide) (hts _ kw_274) (fun _ h9 => h9) rfl d_M_come_17 ?_
      refine lv_bipush (v := nI 15) hx hb d_M_come_20 (by decide) ?_
      refine lv_icmp_ne (tgt := 29) hx hb d_M_come_22 (by decide) (fun c3 => ?_) (fun c3 => ?_)
      · replace c3 := mt (nI_eq (by omega) (by omega)).mpr c3
        exfalso; omega
      · replace c3 := (nI_eq (by omega) (by omega)).mp c3
        refine lv_iconst (v := nI 2) hx hb d_M_come_25 (by decide) ?_
        refine lv_goto (tgt := 30) hx hb d_M_come_26 (by decide) ?_
        refine va_put (D := (dC, dI)) (ci := 1) (v := .int (nI 2)) (ty := .int) (C := "ClearingBooksModel") (T := T_M) (N := 13) hx hb hts wi_M ty_M tyok_M nm_M hown hK hP hD hS 0 rfl rfl 0 (by decide) (hts _ kw_273) (fun _ h9 => h9) rfl (by decide +kernel) rfl rfl (Nat.le_of_ble_eq_true rfl) d_M_come_30 (fun H locs hP hD hS => ?_)
        have hP : va_P (dC, dI) vwCl (md_w ad cI cJ 2 n tc ki ra po se bc bs op pr pe pm) H := hP
        have hD : va_D A (md_w ad cI cJ 2 n tc ki ra po se bc bs op pr pe pm) := hD
        refine lv_aload_n hx hb d_M_come_33 rfl (lv_at hl 0 rfl) ?_
        refine va_get (D := (dC, dI)) (ci := 1) (v := .int (nI 2)) (C := "ClearingBooksModel") (T := T_M) (N := 13) hx hb hts wi_M hown hK hP 0 rfl rfl 0 (by decide) (hts _ kw_273) (fun _ h9 => h9) rfl d_M_come_34 ?_
        refine lv_if_le (tgt := 42) hx hb d_M_come_37 (by decide) (fun c4 => ?_) (fun c4 => ?_)
        · exact absurd c4 (by decide)
        · refine lv_iconst (v := nI 0) hx hb d_M_come_40 (by decide) ?_
          exact W.iret (v := nI 0) hx hb hr (fun t ht hW => ⟨⟨nI 0, (), rfl, rfl, by rw [ht]; exact hP, va_K.moved hW.alike hK, hD⟩, hS.F ht⟩) hS.2.2 d_M_come_41
    · replace c2 := mt (nI_leI (by omega) (by omega)).mpr c2
      exact absurd hr0 c2
set_option maxHeartbeats 4000000 in
set_option maxRecDepth 100000 in
theorem m_acquirer_y (l : Launch) (dC : Nat → ClassId) (dI : Nat → Nat → Nat) (ad : Nat → Nat) (cI cJ : ClassId) (cd n tc : Nat) (ki ra : Nat → Int32) (po se : Nat → Int64) (bc : Nat → Int32) (bs op : Nat → Int64) (pr pe : Nat → Int32) (pm : Nat → Int64) (sz : Nat) (r : Nat) (hr0 : r ≤ 1000) (hn : n < 15) : Met l y_M_acquirer (.code y_M_acquirer b_M_acquirer 2 (some .int) :: wAll) ({ frames := 1, cells := 0, slots := 0, locals := 22 } : Room) (mu_P [.ref (ad 0), .int (nI r)] (dC, dI) vwCl [(cI, .int), (cJ, .long)] (md_w ad cI cJ cd n tc ki ra po se bc bs op pr pe pm) sz) (va_Qi (fun (z : Int32) (_ : Unit) => z = nI n) (mu_B (dC, dI) vwCl [(cI, .int), (cJ, .long)] (va_A (md_w ad cI cJ cd n tc ki ra po se bc bs op pr pe pm) sz) (md_w ad cI cJ 0 (n + 1) tc (upd ki n (nI 1)) (upd ra n (nI r)) po se bc bs op pr pe pm)) (va_A (md_w ad cI cJ cd n tc ki ra po se bc bs op pr pe pm) sz)) 0 0 (va_A (md_w ad cI cJ cd n tc ki ra po se bc bs op pr pe pm) sz) := by
  refine Met.ofW (cc := b_M_acquirer) (maxL := 2) (ret := (some .int)) (by decide) rfl ?_
  intro p e s m args below meth c s₁ B hml hv
  obtain ⟨rfl, hsz, hP, hK, hD0⟩ := hv
  have hx := B.exec
  have hb := B.bytes
  have hr := B.returns
  have hts0 := atoms_spec (ws := (.code y_M_acquirer b_M_acquirer 2 (some .int) :: wAll)) B.pre
  have hts := hts_all hts0
  have hown : s.vm.findClass "ClearingBooksModel" = some m.cls := findClass_of_methodNamed B.named
  have hlocks := B.notSynchronized
  subst hsz
  have hD := hD0.self (sz := s.heap.size)
  generalize hAe : va_A (md_w ad cI cJ cd n tc ki ra po se bc bs op pr pe pm) s.heap.size = A at hD ⊢
  have hA : ∀ q : Nat, s.heap.size ≤ q → A q := fun q h => by rw [← hAe]; exact Or.inr h
  have hS : va_S A s.heap s.heap [] := va_S.rf
  have hl := lv_entry ([.ref (ad 0), .int (nI r)]) (n := 2) (Nat.le_of_ble_eq_true rfl)
  rw [lg_entry_eq]
  generalize (lg_sl ([.ref (ad 0), .int (nI r)]) ++ List.replicate (2 - (lg_sl ([.ref (ad 0), .int (nI r)])).length) Slot.unset).toArray = ls at hl ⊢
  have hl : lv_has ls 2 [(0, .ref (ad 0)), (1, .int (nI r))] := hl
  refine lv_aload_n hx hb d_M_acquirer_0 rfl (lv_at hl 0 rfl) ?_
  refine lv_iconst (v := nI 1) hx hb d_M_acquirer_1 (by decide) ?_
  refine lv_iload_n hx hb d_M_acquirer_2 rfl (lv_at hl 1 rfl) ?_
  refine mu_calli (va_runV (As := [.int (nI 1), .int (nI r)]) (rest := []) ⟨hx, hb, hml, hown, hts⟩ (m_come_y l dC dI ad cI cJ cd n tc ki ra po se bc bs op pr pe pm _ (nI 1) r hr0 hn) (cwV 2 hts (wAll_v kw_321 kw_323 ks_10 kw_2 kw_324) rfl rfl rfl (by decide +kernel) ⟨Nat.le_of_ble_eq_true rfl, Nat.le_of_ble_eq_true rfl⟩) (mu_preV hK hP hD (ci := 1) (q0 := 0) rfl rfl) rfl rfl hl.1 rfl (lv_room (Nat.le_of_ble_eq_true rfl)) d_M_acquirer_3 ⟨Nat.le_of_ble_eq_true rfl, Nat.le_of_ble_eq_true rfl⟩) hD hS hA (fun r H locs hq hP hD hS => ?_)
  obtain rfl := hq
  have hP : va_P (dC, dI) vwCl (md_w ad cI cJ 0 (n + 1) tc (upd ki n (nI 1)) (upd ra n (nI r)) po se bc bs op pr pe pm) H := hP
  have hD : va_D A (md_w ad cI cJ 0 (n + 1) tc (upd ki n (nI 1)) (upd ra n (nI r)) po se bc bs op pr pe pm) := hD
  exact W.iret (v := nI n) hx hb hr (fun t ht hW => ⟨⟨nI n, (), rfl, rfl, by rw [ht]; exact hP, va_K.moved hW.alike hK, hD⟩, hS.F ht⟩) hS.2.2 d_M_acquirer_6
set_option maxHeartbeats 4000000 in
set_option maxRecDepth 100000 in
theorem m_acquirer_ta (l : Launch) (dC : Nat → ClassId) (dI : Nat → Nat → Nat) (ad : Nat → Nat) (cI cJ : ClassId) (cd n tc : Nat) (ki ra : Nat → Int32) (po se : Nat → Int64) (bc : Nat → Int32) (bs op : Nat → Int64) (pr pe : Nat → Int32) (pm : Nat → Int64) (sz : Nat) (x : Int32) (hno : ¬ (¬ x < 0 ∧ x ≤ nI 1000)) : Met l y_M_acquirer (.code y_M_acquirer b_M_acquirer 2 (some .int) :: wAll) ({ frames := 1, cells := 0, slots := 0, locals := 22 } : Room) (mu_P [.ref (ad 0), .int x] (dC, dI) vwCl [(cI, .int), (cJ, .long)] (md_w ad cI cJ cd n tc ki ra po se bc bs op pr pe pm) sz) (va_Qi (fun (z : Int32) (_ : Unit) => z = nI 0) (mu_B (dC, dI) vwCl [(cI, .int), (cJ, .long)] (va_A (md_w ad cI cJ cd n tc ki ra po se bc bs op pr pe pm) sz) (md_w ad cI cJ 1 n tc ki ra po se bc bs op pr pe pm)) (va_A (md_w ad cI cJ cd n tc ki ra po se bc bs op pr pe pm) sz)) 0 0 (va_A (md_w ad cI cJ cd n tc ki ra po se bc bs op pr pe pm) sz) := by
  refine Met.ofW (cc := b_M_acquirer) (maxL := 2) (ret := (some .int)) (by decide) rfl ?_
  intro p e s m args below meth c s₁ B hml hv
  obtain ⟨rfl, hsz, hP, hK, hD0⟩ := hv
  have hx := B.exec
  have hb := B.bytes
  have hr := B.returns
  have hts0 := atoms_spec (ws := (.code y_M_acquirer b_M_acquirer 2 (some .int) :: wAll)) B.pre
  have hts := hts_all hts0
  have hown : s.vm.findClass "ClearingBooksModel" = some m.cls := findClass_of_methodNamed B.named
  have hlocks := B.notSynchronized
  subst hsz
  have hD := hD0.self (sz := s.heap.size)
  generalize hAe : va_A (md_w ad cI cJ cd n tc ki ra po se bc bs op pr pe pm) s.heap.size = A at hD ⊢
  have hA : ∀ q : Nat, s.heap.size ≤ q → A q := fun q h => by rw [← hAe]; exact Or.inr h
  have hS : va_S A s.heap s.heap [] := va_S.rf
  have hl := lv_entry ([.ref (ad 0), .int x]) (n := 2) (Nat.le_of_ble_eq_true rfl)
  rw [lg_entry_eq]
  generalize (lg_sl ([.ref (ad 0), .int x]) ++ List.replicate (2 - (lg_sl ([.ref (ad 0), .int x])).length) Slot.unset).toArray = ls at hl ⊢
  have hl : lv_has ls 2 [(0, .ref (ad 0)), (1, .int x)] := hl
  refine lv_aload_n hx hb d_M_acquirer_0 rfl (lv_at hl 0 rfl) ?_
  refine lv_iconst (v := nI 1) hx hb d_M_acquirer_1 (by decide) ?_
  refine lv_iload_n hx hb d_M_acquirer_2 rfl (lv_at hl 1 rfl) ?_
  refine mu_calli (va_runV (As := [.int (nI 1), .int x]) (rest := []) ⟨hx, hb, hml, hown, hts⟩ (m_come_ta l dC dI ad cI cJ cd n tc ki ra po se bc bs op pr pe pm _ (nI 1) x hno) (cwV 2 hts (wAll_v kw_321 kw_323 ks_10 kw_2 kw_324) rfl rfl rfl (by decide +kernel) ⟨Nat.le_of_ble_eq_true rfl, Nat.le_of_ble_eq_true rfl⟩) (mu_preV hK hP hD (ci := 1) (q0 := 0) rfl rfl) rfl rfl hl.1 rfl (lv_room (Nat.le_of_ble_eq_true rfl)) d_M_acquirer_3 ⟨Nat.le_of_ble_eq_true rfl, Nat.le_of_ble_eq_true rfl⟩) hD hS hA (fun r H locs hq hP hD hS => ?_)
  obtain rfl := hq
  have hP : va_P (dC, dI) vwCl (md_w ad cI cJ 1 n tc ki ra po se bc bs op pr pe pm) H := hP
  have hD : va_D A (md_w ad cI cJ 1 n tc ki ra po se bc bs op pr pe pm) := hD
  exact W.iret (v := nI 0) hx hb hr (fun t ht hW => ⟨⟨nI 0, (), rfl, rfl, by rw [ht]; exact hP, va_K.moved hW.alike hK, hD⟩, hS.F ht⟩) hS.2.2 d_M_acquirer_6
set_option maxHeartbeats 4000000 in
set_option maxRecDepth 100000 in
theorem m_acquirer_ts (l : Launch) (dC : Nat → ClassId) (dI : Nat → Nat → Nat) (ad : Nat → Nat) (cI cJ : ClassId) (cd n tc : Nat) (ki ra : Nat → Int32) (po se : Nat → Int64) (bc : Nat → Int32) (bs op : Nat → Int64) (pr pe : Nat → Int32) (pm : Nat → Int64) (sz : Nat) (r : Nat) (hr0 : r ≤ 1000) (hn : n = 15) : Met l y_M_acquirer (.code y_M_acquirer b_M_acquirer 2 (some .int) :: wAll) ({ frames := 1, cells := 0, slots := 0, locals := 22 } : Room) (mu_P [.ref (ad 0), .int (nI r)] (dC, dI) vwCl [(cI, .int), (cJ, .long)] (md_w ad cI cJ cd n tc ki ra po se bc bs op pr pe pm) sz) (va_Qi (fun (z : Int32) (_ : Unit) => z = nI 0) (mu_B (dC, dI) vwCl [(cI, .int), (cJ, .long)] (va_A (md_w ad cI cJ cd n tc ki ra po se bc bs op pr pe pm) sz) (md_w ad cI cJ 2 n tc ki ra po se bc bs op pr pe pm)) (va_A (md_w ad cI cJ cd n tc ki ra po se bc bs op pr pe pm) sz)) 0 0 (va_A (md_w ad cI cJ cd n tc ki ra po se bc bs op pr pe pm) sz) := by
  refine Met.ofW (cc := b_M_acquirer) (maxL := 2) (ret := (some .int)) (by decide) rfl ?_
  intro p e s m args below meth c s₁ B hml hv
  obtain ⟨rfl, hsz, hP, hK, hD0⟩ := hv
  have hx := B.exec
  have hb := B.bytes
  have hr := B.returns
  have hts0 := atoms_spec (ws := (.code y_M_acquirer b_M_acquirer 2 (some .int) :: wAll)) B.pre
  have hts := hts_all hts0
  have hown : s.vm.findClass "ClearingBooksModel" = some m.cls := findClass_of_methodNamed B.named
  have hlocks := B.notSynchronized
  subst hsz
  have hD := hD0.self (sz := s.heap.size)
  generalize hAe : va_A (md_w ad cI cJ cd n tc ki ra po se bc bs op pr pe pm) s.heap.size = A at hD ⊢
  have hA : ∀ q : Nat, s.heap.size ≤ q → A q := fun q h => by rw [← hAe]; exact Or.inr h
  have hS : va_S A s.heap s.heap [] := va_S.rf
  have hl := lv_entry ([.ref (ad 0), .int (nI r)]) (n := 2) (Nat.le_of_ble_eq_true rfl)
  rw [lg_entry_eq]
  generalize (lg_sl ([.ref (ad 0), .int (nI r)]) ++ List.replicate (2 - (lg_sl ([.ref (ad 0), .int (nI r)])).length) Slot.unset).toArray = ls at hl ⊢
  have hl : lv_has ls 2 [(0, .ref (ad 0)), (1, .int (nI r))] := hl
  refine lv_aload_n hx hb d_M_acquirer_0 rfl (lv_at hl 0 rfl) ?_
  refine lv_iconst (v := nI 1) hx hb d_M_acquirer_1 (by decide) ?_
  refine lv_iload_n hx hb d_M_acquirer_2 rfl (lv_at hl 1 rfl) ?_
  refine mu_calli (va_runV (As := [.int (nI 1), .int (nI r)]) (rest := []) ⟨hx, hb, hml, hown, hts⟩ (m_come_ts l dC dI ad cI cJ cd n tc ki ra po se bc bs op pr pe pm _ (nI 1) r hr0 hn) (cwV 2 hts (wAll_v kw_321 kw_323 ks_10 kw_2 kw_324) rfl rfl rfl (by decide +kernel) ⟨Nat.le_of_ble_eq_true rfl, Nat.le_of_ble_eq_true rfl⟩) (mu_preV hK hP hD (ci := 1) (q0 := 0) rfl rfl) rfl rfl hl.1 rfl (lv_room (Nat.le_of_ble_eq_true rfl)) d_M_acquirer_3 ⟨Nat.le_of_ble_eq_true rfl, Nat.le_of_ble_eq_true rfl⟩) hD hS hA (fun r H locs hq hP hD hS => ?_)
  obtain rfl := hq
  have hP : va_P (dC, dI) vwCl (md_w ad cI cJ 2 n tc ki ra po se bc bs op pr pe pm) H := hP
  have hD : va_D A (md_w ad cI cJ 2 n tc ki ra po se bc bs op pr pe pm) := hD
  exact W.iret (v := nI 0) hx hb hr (fun t ht hW => ⟨⟨nI 0, (), rfl, rfl, by rw [ht]; exact hP, va_K.moved hW.alike hK, hD⟩, hS.F ht⟩) hS.2.2 d_M_acquirer_6
set_option maxHeartbeats 4000000 in
set_option maxRecDepth 100000 in
theorem m_issuer_y (l : Launch) (dC : Nat → ClassId) (dI : Nat → Nat → Nat) (ad : Nat → Nat) (cI cJ : ClassId) (cd n tc : Nat) (ki ra : Nat → Int32) (po se : Nat → Int64) (bc : Nat → Int32) (bs op : Nat → Int64) (pr pe : Nat → Int32) (pm : Nat → Int64) (sz : Nat) (r : Nat) (hr0 : r ≤ 1000) (hn : n < 15) : Met l y_M_issuer (.code y_M_issuer b_M_issuer 2 (some .int) :: wAll) ({ frames := 1, cells := 0, slots := 0, locals := 22 } : Room) (mu_P [.ref (ad 0), .int (nI r)] (dC, dI) vwCl [(cI, .int), (cJ, .long)] (md_w ad cI cJ cd n tc ki ra po se bc bs op pr pe pm) sz) (va_Qi (fun (z : Int32) (_ : Unit) => z = nI n) (mu_B (dC, dI) vwCl [(cI, .int), (cJ, .long)] (va_A (md_w ad cI cJ cd n tc ki ra po se bc bs op pr pe pm) sz) (md_w ad cI cJ 0 (n + 1) tc (upd ki n (nI 2)) (upd ra n (nI r)) po se bc bs op pr pe pm)) (va_A (md_w ad cI cJ cd n tc ki ra po se bc bs op pr pe pm) sz)) 0 0 (va_A (md_w ad cI cJ cd n tc ki ra po se bc bs op pr pe pm) sz) := by
  refine Met.ofW (cc := b_M_issuer) (maxL := 2) (ret := (some .int)) (by decide) rfl ?_
  intro p e s m args below meth c s₁ B hml hv
  obtain ⟨rfl, hsz, hP, hK, hD0⟩ := hv
  have hx := B.exec
  have hb := B.bytes
  have hr := B.returns
  have hts0 := atoms_spec (ws := (.code y_M_issuer b_M_issuer 2 (some .int) :: wAll)) B.pre
  have hts := hts_all hts0
  have hown : s.vm.findClass "ClearingBooksModel" = some m.cls := findClass_of_methodNamed B.named
  have hlocks := B.notSynchronized
  subst hsz
  have hD := hD0.self (sz := s.heap.size)
  generalize hAe : va_A (md_w ad cI cJ cd n tc ki ra po se bc bs op pr pe pm) s.heap.size = A at hD ⊢
  have hA : ∀ q : Nat, s.heap.size ≤ q → A q := fun q h => by rw [← hAe]; exact Or.inr h
  have hS : va_S A s.heap s.heap [] := va_S.rf
  have hl := lv_entry ([.ref (ad 0), .int (nI r)]) (n := 2) (Nat.le_of_ble_eq_true rfl)
  rw [lg_entry_eq]
  generalize (lg_sl ([.ref (ad 0), .int (nI r)]) ++ List.replicate (2 - (lg_sl ([.ref (ad 0), .int (nI r)])).length) Slot.unset).toArray = ls at hl ⊢
  have hl : lv_has ls 2 [(0, .ref (ad 0)), (1, .int (nI r))] := hl
  refine lv_aload_n hx hb d_M_issuer_0 rfl (lv_at hl 0 rfl) ?_
  refine lv_iconst (v := nI 2) hx hb d_M_issuer_1 (by decide) ?_
  refine lv_iload_n hx hb d_M_issuer_2 rfl (lv_at hl 1 rfl) ?_
  refine mu_calli (va_runV (As := [.int (nI 2), .int (nI r)]) (rest := []) ⟨hx, hb, hml, hown, hts⟩ (m_come_y l dC dI ad cI cJ cd n tc ki ra po se bc bs op pr pe pm _ (nI 2) r hr0 hn) (cwV 2 hts (wAll_v kw_321 kw_323 ks_10 kw_2 kw_324) rfl rfl rfl (by decide +kernel) ⟨Nat.le_of_ble_eq_true rfl, Nat.le_of_ble_eq_true rfl⟩) (mu_preV hK hP hD (ci := 1) (q0 := 0) rfl rfl) rfl rfl hl.1 rfl (lv_room (Nat.le_of_ble_eq_true rfl)) d_M_issuer_3 ⟨Nat.le_of_ble_eq_true rfl, Nat.le_of_ble_eq_true rfl⟩) hD hS hA (fun r H locs hq hP hD hS => ?_)
  obtain rfl := hq
  have hP : va_P (dC, dI) vwCl (md_w ad cI cJ 0 (n + 1) tc (upd ki n (nI 2)) (upd ra n (nI r)) po se bc bs op pr pe pm) H := hP
  have hD : va_D A (md_w ad cI cJ 0 (n + 1) tc (upd ki n (nI 2)) (upd ra n (nI r)) po se bc bs op pr pe pm) := hD
  exact W.iret (v := nI n) hx hb hr (fun t ht hW => ⟨⟨nI n, (), rfl, rfl, by rw [ht]; exact hP, va_K.moved hW.alike hK, hD⟩, hS.F ht⟩) hS.2.2 d_M_issuer_6
set_option maxHeartbeats 4000000 in
set_option maxRecDepth 100000 in
theorem m_issuer_ta (l : Launch) (dC : Nat → ClassId) (dI : Nat → Nat → Nat) (ad : Nat → Nat) (cI cJ : ClassId) (cd n tc : Nat) (ki ra : Nat → Int32) (po se : Nat → Int64) (bc : Nat → Int32) (bs op : Nat → Int64) (pr pe : Nat → Int32) (pm : Nat → Int64) (sz : Nat) (x : Int32) (hno : ¬ (¬ x < 0 ∧ x ≤ nI 1000)) : Met l y_M_issuer (.code y_M_issuer b_M_issuer 2 (some .int) :: wAll) ({ frames := 1, cells := 0, slots := 0, locals := 22 } : Room) (mu_P [.ref (ad 0), .int x] (dC, dI) vwCl [(cI, .int), (cJ, .long)] (md_w ad cI cJ cd n tc ki ra po se bc bs op pr pe pm) sz) (va_Qi (fun (z : Int32) (_ : Unit) => z = nI 0) (mu_B (dC, dI) vwCl [(cI, .int), (cJ, .long)] (va_A (md_w ad cI cJ cd n tc ki ra po se bc bs op pr pe pm) sz) (md_w ad cI cJ 1 n tc ki ra po se bc bs op pr pe pm)) (va_A (md_w ad cI cJ cd n tc ki ra po se bc bs op pr pe pm) sz)) 0 0 (va_A (md_w ad cI cJ cd n tc ki ra po se bc bs op pr pe pm) sz) := by
  refine Met.ofW (cc := b_M_issuer) (maxL := 2) (ret := (some .int)) (by decide) rfl ?_
  intro p e s m args below meth c s₁ B hml hv
  obtain ⟨rfl, hsz, hP, hK, hD0⟩ := hv
  have hx := B.exec
  have hb := B.bytes
  have hr := B.returns
  have hts0 := atoms_spec (ws := (.code y_M_issuer b_M_issuer 2 (some .int) :: wAll)) B.pre
  have hts := hts_all hts0
  have hown : s.vm.findClass "ClearingBooksModel" = some m.cls := findClass_of_methodNamed B.named
  have hlocks := B.notSynchronized
  subst hsz
  have hD := hD0.self (sz := s.heap.size)
  generalize hAe : va_A (md_w ad cI cJ cd n tc ki ra po se bc bs op pr pe pm) s.heap.size = A at hD ⊢
  have hA : ∀ q : Nat, s.heap.size ≤ q → A q := fun q h => by rw [← hAe]; exact Or.inr h
  have hS : va_S A s.heap s.heap [] := va_S.rf
  have hl := lv_entry ([.ref (ad 0), .int x]) (n := 2) (Nat.le_of_ble_eq_true rfl)
  rw [lg_entry_eq]
  generalize (lg_sl ([.ref (ad 0), .int x]) ++ List.replicate (2 - (lg_sl ([.ref (ad 0), .int x])).length) Slot.unset).toArray = ls at hl ⊢
  have hl : lv_has ls 2 [(0, .ref (ad 0)), (1, .int x)] := hl
  refine lv_aload_n hx hb d_M_issuer_0 rfl (lv_at hl 0 rfl) ?_
  refine lv_iconst (v := nI 2) hx hb d_M_issuer_1 (by decide) ?_
  refine lv_iload_n hx hb d_M_issuer_2 rfl (lv_at hl 1 rfl) ?_
  refine mu_calli (va_runV (As := [.int (nI 2), .int x]) (rest := []) ⟨hx, hb, hml, hown, hts⟩ (m_come_ta l dC dI ad cI cJ cd n tc ki ra po se bc bs op pr pe pm _ (nI 2) x hno) (cwV 2 hts (wAll_v kw_321 kw_323 ks_10 kw_2 kw_324) rfl rfl rfl (by decide +kernel) ⟨Nat.le_of_ble_eq_true rfl, Nat.le_of_ble_eq_true rfl⟩) (mu_preV hK hP hD (ci := 1) (q0 := 0) rfl rfl) rfl rfl hl.1 rfl (lv_room (Nat.le_of_ble_eq_true rfl)) d_M_issuer_3 ⟨Nat.le_of_ble_eq_true rfl, Nat.le_of_ble_eq_true rfl⟩) hD hS hA (fun r H locs hq hP hD hS => ?_)
  obtain rfl := hq
  have hP : va_P (dC, dI) vwCl (md_w ad cI cJ 1 n tc ki ra po se bc bs op pr pe pm) H := hP
  have hD : va_D A (md_w ad cI cJ 1 n tc ki ra po se bc bs op pr pe pm) := hD
  exact W.iret (v := nI 0) hx hb hr (fun t ht hW => ⟨⟨nI 0, (), rfl, rfl, by rw [ht]; exact hP, va_K.moved hW.alike hK, hD⟩, hS.F ht⟩) hS.2.2 d_M_issuer_6
set_option maxHeartbeats 4000000 in
set_option maxRecDepth 100000 in
theorem m_issuer_ts (l : Launch) (dC : Nat → ClassId) (dI : Nat → Nat → Nat) (ad : Nat → Nat) (cI cJ : ClassId) (cd n tc : Nat) (ki ra : Nat → Int32) (po se : Nat → Int64) (bc : Nat → Int32) (bs op : Nat → Int64) (pr pe : Nat → Int32) (pm : Nat → Int64) (sz : Nat) (r : Nat) (hr0 : r ≤ 1000) (hn : n = 15) : Met l y_M_issuer (.code y_M_issuer b_M_issuer 2 (some .int) :: wAll) ({ frames := 1, cells := 0, slots := 0, locals := 22 } : Room) (mu_P [.ref (ad 0), .int (nI r)] (dC, dI) vwCl [(cI, .int), (cJ, .long)] (md_w ad cI cJ cd n tc ki ra po se bc bs op pr pe pm) sz) (va_Qi (fun (z : Int32) (_ : Unit) => z = nI 0) (mu_B (dC, dI) vwCl [(cI, .int), (cJ, .long)] (va_A (md_w ad cI cJ cd n tc ki ra po se bc bs op pr pe pm) sz) (md_w ad cI cJ 2 n tc ki ra po se bc bs op pr pe pm)) (va_A (md_w ad cI cJ cd n tc ki ra po se bc bs op pr pe pm) sz)) 0 0 (va_A (md_w ad cI cJ cd n tc ki ra po se bc bs op pr pe pm) sz) := by
  refine Met.ofW (cc := b_M_issuer) (maxL := 2) (ret := (some .int)) (by decide) rfl ?_
  intro p e s m args below meth c s₁ B hml hv
  obtain ⟨rfl, hsz, hP, hK, hD0⟩ := hv
  have hx := B.exec
  have hb := B.bytes
  have hr := B.returns
  have hts0 := atoms_spec (ws := (.code y_M_issuer b_M_issuer 2 (some .int) :: wAll)) B.pre
  have hts := hts_all hts0
  have hown : s.vm.findClass "ClearingBooksModel" = some m.cls := findClass_of_methodNamed B.named
  have hlocks := B.notSynchronized
  subst hsz
  have hD := hD0.self (sz := s.heap.size)
  generalize hAe : va_A (md_w ad cI cJ cd n tc ki ra po se bc bs op pr pe pm) s.heap.size = A at hD ⊢
  have hA : ∀ q : Nat, s.heap.size ≤ q → A q := fun q h => by rw [← hAe]; exact Or.inr h
  have hS : va_S A s.heap s.heap [] := va_S.rf
  have hl := lv_entry ([.ref (ad 0), .int (nI r)]) (n := 2) (Nat.le_of_ble_eq_true rfl)
  rw [lg_entry_eq]
  generalize (lg_sl ([.ref (ad 0), .int (nI r)]) ++ List.replicate (2 - (lg_sl ([.ref (ad 0), .int (nI r)])).length) Slot.unset).toArray = ls at hl ⊢
  have hl : lv_has ls 2 [(0, .ref (ad 0)), (1, .int (nI r))] := hl
  refine lv_aload_n hx hb d_M_issuer_0 rfl (lv_at hl 0 rfl) ?_
  refine lv_iconst (v := nI 2) hx hb d_M_issuer_1 (by decide) ?_
  refine lv_iload_n hx hb d_M_issuer_2 rfl (lv_at hl 1 rfl) ?_
  refine mu_calli (va_runV (As := [.int (nI 2), .int (nI r)]) (rest := []) ⟨hx, hb, hml, hown, hts⟩ (m_come_ts l dC dI ad cI cJ cd n tc ki ra po se bc bs op pr pe pm _ (nI 2) r hr0 hn) (cwV 2 hts (wAll_v kw_321 kw_323 ks_10 kw_2 kw_324) rfl rfl rfl (by decide +kernel) ⟨Nat.le_of_ble_eq_true rfl, Nat.le_of_ble_eq_true rfl⟩) (mu_preV hK hP hD (ci := 1) (q0 := 0) rfl rfl) rfl rfl hl.1 rfl (lv_room (Nat.le_of_ble_eq_true rfl)) d_M_issuer_3 ⟨Nat.le_of_ble_eq_true rfl, Nat.le_of_ble_eq_true rfl⟩) hD hS hA (fun r H locs hq hP hD hS => ?_)
  obtain rfl := hq
  have hP : va_P (dC, dI) vwCl (md_w ad cI cJ 2 n tc ki ra po se bc bs op pr pe pm) H := hP
  have hD : va_D A (md_w ad cI cJ 2 n tc ki ra po se bc bs op pr pe pm) := hD
  exact W.iret (v := nI 0) hx hb hr (fun t ht hW => ⟨⟨nI 0, (), rfl, rfl, by rw [ht]; exact hP, va_K.moved hW.alike hK, hD⟩, hS.F ht⟩) hS.2.2 d_M_issuer_6
set_option maxHeartbeats 4000000 in
set_option maxRecDepth 100000 in
theorem m_clear_y (l : Launch) (dC : Nat → ClassId) (dI : Nat → Nat → Nat) (ad : Nat → Nat) (cI cJ : ClassId) (cd n tc : Nat) (ki ra : Nat → Int32) (po se : Nat → Int64) (bc : Nat → Int32) (bs op : Nat → Int64) (pr pe : Nat → Int32) (pm : Nat → Int64) (sz : Nat) (i j : Nat) (x : Int64) (h0i : 0 < i) (h0j : 0 < j) (hji : i < n) (hjj : j < n) (hn : n ≤ 15) (hki : ki i = nI 1) (hkj : ki j = nI 2) (h1 : ¬ x < 1) (h2 : ¬ 1000000000000 < x) : Met l y_M_clear (.code y_M_clear b_M_clear 11 (some .long) :: wAll) ({ frames := 1, cells := 0, slots := 0, locals := 22 } : Room) (mu_P [.ref (ad 0), .int (nI i), .int (nI j), .long x] (dC, dI) vwCl [(cI, .int), (cJ, .long)] (md_w ad cI cJ cd n tc ki ra po se bc bs op pr pe pm) sz) (va_Ql (fun (z : Int64) (_ : Unit) => z = mcv x (ra i + ra j)) (mu_B (dC, dI) vwCl [(cI, .int), (cJ, .long)] (va_A (md_w ad cI cJ cd n tc ki ra po se bc bs op pr pe pm) sz) (md_w ad cI cJ 0 n tc ki ra (po_cl po i j x (mcv x (ra i + ra j)) (dnv x (ra j))) se (upd bc i (bc i + nI 1)) (vp_updL bs i (bs i + x)) op pr pe pm)) (va_A (md_w ad cI cJ cd n tc ki ra po se bc bs op pr pe pm) sz)) 0 0 (va_A (md_w ad cI cJ cd n tc ki ra po se bc bs op pr pe pm) sz) := by
  refine Met.ofW (cc := b_M_clear) (maxL := 11) (ret := (some .long)) (by decide) rfl ?_
  intro p e s m args below meth c s₁ B hml hv
  obtain ⟨rfl, hsz, hP, hK, hD0⟩ := hv
  have hx := B.exec
  have hb := B.bytes
  have hr := B.returns
  have hts0 := atoms_spec (ws := (.code y_M_clear b_M_clear 11 (some .long) :: wAll)) B.pre
  have hts := hts_all hts0
  have hown : s.vm.findClass "ClearingBooksModel" = some m.cls := findClass_of_methodNamed B.named
  have hlocks := B.notSynchronized
  subst hsz
  have hD := hD0.self (sz := s.heap.size)
  generalize hAe : va_A (md_w ad cI cJ cd n tc ki ra po se bc bs op pr pe pm) s.heap.size = A at hD ⊢
  have hA : ∀ q : Nat, s.heap.size ≤ q → A q := fun q h => by rw [← hAe]; exact Or.inr h
  have hS : va_S A s.heap s.heap [] := va_S.rf
  have hl := lv_entry ([.ref (ad 0), .int (nI i), .int (nI j), .long x]) (n := 11) (Nat.le_of_ble_eq_true rfl)
  rw [lg_entry_eq]
  generalize (lg_sl ([.ref (ad 0), .int (nI i), .int (nI j), .long x]) ++ List.replicate (11 - (lg_sl ([.ref (ad 0), .int (nI i), .int (nI j), .long x])).length) Slot.unset).toArray = ls at hl ⊢
  have hl : lv_has ls 11 [(0, .ref (ad 0)), (1, .int (nI i)), (2, .int (nI j)), (3, .long x)] := hl
  refine lv_aload_n hx hb d_M_clear_0 rfl (lv_at hl 0 rfl) ?_
  refine lv_aload_n hx hb d_M_clear_1 rfl (lv_at hl 0 rfl) ?_
  refine lv_iload_n hx hb d_M_clear_2 rfl (lv_at hl 1 rfl) ?_
  refine lv_iconst (v := nI 1) hx hb d_M_clear_3 (by decide) ?_
  refine ro_call (va_runV (As := [.int (nI i), .int (nI 1)]) (rest := [.ref (ad 0)]) ⟨hx, hb, hml, hown, hts⟩ (m_is_y l dC dI ad cI cJ cd n tc ki ra po se bc bs op pr pe pm i (nI 1) h0i hji hn hki) (cwV 2 hts (wAll_v kw_333 kw_335 ks_11 kw_2 kw_336) rfl rfl rfl (by decide +kernel) ⟨Nat.le_of_ble_eq_true rfl, Nat.le_of_ble_eq_true rfl⟩) (ro_preV bl_tt hK hP (ci := 1) (q0 := 0) rfl rfl (fun _ _ _ => trivial)) rfl rfl hl.1 rfl (lv_room (Nat.le_of_ble_eq_true rfl)) d_M_clear_4 ⟨Nat.le_of_ble_eq_true rfl, Nat.le_of_ble_eq_true rfl⟩) ?_
  refine W.eq (g2 := F0 m 7 ls [.int (nI 1), .ref (ad 0)]) rfl ?_
  refine lv_if_eq (tgt := 37) hx hb d_M_clear_7 (by decide) (fun c1 => ?_) (fun c1 => ?_)
  · exact absurd c1 (by decide)
  · refine lv_aload_n hx hb d_M_clear_10 rfl (lv_at hl 0 rfl) ?_
    refine lv_iload_n hx hb d_M_clear_11 rfl (lv_at hl 2 rfl) ?_
    refine lv_iconst (v := nI 2) hx hb d_M_clear_12 (by decide) ?_
    refine ro_call (va_runV (As := [.int (nI j), .int (nI 2)]) (rest := [.ref (ad 0)]) ⟨hx, hb, hml, hown, hts⟩ (m_is_y l dC dI ad cI cJ cd n tc ki ra po se bc bs op pr pe pm j (nI 2) h0j hjj hn hkj) (cwV 2 hts (wAll_v kw_333 kw_335 ks_11 kw_2 kw_336) rfl rfl rfl (by decide +kernel) ⟨Nat.le_of_ble_eq_true rfl, Nat.le_of_ble_eq_true rfl⟩) (ro_preV bl_tt hK hP (ci := 1) (q0 := 0) rfl rfl (fun _ _ _ => trivial)) rfl rfl hl.1 rfl (lv_room (Nat.le_of_ble_eq_true rfl)) d_M_clear_13 ⟨Nat.le_of_ble_eq_true rfl, Nat.le_of_ble_eq_true rfl⟩) ?_
    refine W.eq (g2 := F0 m 16 ls [.int (nI 1), .ref (ad 0)]) rfl ?_
    refine lv_if_eq (tgt := 37) hx hb d_M_clear_16 (by decide) (fun c2 => ?_) (fun c2 => ?_)
    · exact absurd c2 (by decide)
    · refine lv_lload_n hx hb d_M_clear_19 rfl (lv_at hl 3 rfl) ?_
      refine lv_lconst (v := 1) hx hb d_M_clear_20 (by decide) ?_
      refine W.lcmp hx hb d_M_clear_21 ?_
      refine lv_if_lt (tgt := 37) hx hb d_M_clear_22 (by decide) (fun c3 => ?_) (fun c3 => ?_)
      · replace c3 := (lg_cmp_lt _ _).mp c3
        exact absurd c3 h1
      · replace c3 := mt (lg_cmp_lt _ _).mpr c3
        refine lv_lload_n hx hb d_M_clear_25 rfl (lv_at hl 3 rfl) ?_
        refine lv_ldc2 (v := 1000000000000) hx hb hown (hts _ kw_337) d_M_clear_26 ?_
        refine W.lcmp hx hb d_M_clear_29 ?_
        refine lv_if_gt (tgt := 37) hx hb d_M_clear_30 (by decide) (fun c4 => ?_) (fun c4 => ?_)
        · replace c4 := (lg_cmp_gt _ _).mp c4
          exact absurd c4 h2
        · replace c4 := mt (lg_cmp_gt _ _).mpr c4
          refine lv_iconst (v := nI 1) hx hb d_M_clear_33 (by decide) ?_
          refine lv_goto (tgt := 38) hx hb d_M_clear_34 (by decide) ?_
          refine mu_calli (va_runV (As := [.int (nI 1)]) (rest := []) ⟨hx, hb, hml, hown, hts⟩ (m_goes_y l dC dI ad cI cJ cd n tc ki ra po se bc bs op pr pe pm _ ) (cwV 1 hts (wAll_v kw_338 kw_340 ks_12 kw_2 kw_341) rfl rfl rfl (by decide +kernel) ⟨Nat.le_of_ble_eq_true rfl, Nat.le_of_ble_eq_true rfl⟩) (mu_preV hK hP hD (ci := 1) (q0 := 0) rfl rfl) rfl rfl hl.1 rfl (lv_room (Nat.le_of_ble_eq_true rfl)) d_M_clear_38 ⟨Nat.le_of_ble_eq_true rfl, Nat.le_of_ble_eq_true rfl⟩) hD hS hA (fun r H locs hq hP hD hS => ?_)
          obtain rfl := hq
          have hP : va_P (dC, dI) vwCl (md_w ad cI cJ 0 n tc ki ra po se bc bs op pr pe pm) H := hP
          have hD : va_D A (md_w ad cI cJ 0 n tc ki ra po se bc bs op pr pe pm) := hD
          refine lv_if_ne (tgt := 46) hx hb d_M_clear_41 (by decide) (fun c5 => ?_) (fun c5 => ?_)
          · refine lv_lload_n hx hb d_M_clear_46 rfl (lv_at hl 3 rfl) ?_
            refine lv_aload_n hx hb d_M_clear_47 rfl (lv_at hl 0 rfl) ?_
            refine va_get (D := (dC, dI)) (ci := 1) (v := .ref (ad 2)) (C := "ClearingBooksModel") (T := T_M) (N := 13) hx hb hts wi_M hown hK hP 0 rfl rfl 3 (by decide) (hts _ kw_276) (fun _ h9 => h9) rfl d_M_clear_48 ?_
            refine lv_iload_n hx hb d_M_clear_51 rfl (lv_at hl 1 rfl) ?_
            refine xa_iaload (f := ra) hx hb hK hP 2 0 rfl rfl (j := i) (by omega) (by decide) d_M_clear_52 ?_
            refine lv_aload_n hx hb d_M_clear_53 rfl (lv_at hl 0 rfl) ?_
            refine va_get (D := (dC, dI)) (ci := 1) (v := .ref (ad 2)) (C := "ClearingBooksModel") (T := T_M) (N := 13) hx hb hts wi_M hown hK hP 0 rfl rfl 3 (by decide) (hts _ kw_276) (fun _ h9 => h9) rfl d_M_clear_54 ?_
            refine lv_iload_n hx hb d_M_clear_57 rfl (lv_at hl 2 rfl) ?_
            refine xa_iaload (f := ra) hx hb hK hP 2 0 rfl rfl (j := j) (by omega) (by decide) d_M_clear_58 ?_
            refine lv_iadd hx hb d_M_clear_59 ?_
            refine lv_i2l (v := ((ra i) + (ra j)).toInt64) hx hb d_M_clear_60 rfl ?_
            refine lv_lmul hx hb d_M_clear_61 ?_
            refine lv_lstore (lv' := [(5, .long (x * (((ra i) + (ra j)).toInt64))), (0, .ref (ad 0)), (1, .int (nI i)), (2, .int (nI j)), (3, .long x)]) hx hb d_M_clear_62 hl (by decide) rfl (fun ls hl => ?_)
            refine lv_lload hx hb d_M_clear_64 (lv_at hl 0 rfl) ?_
            refine lv_ldc2 (v := 10000) hx hb hown (hts _ kw_342) d_M_clear_66 ?_
            refine lv_ldiv hx hb d_M_clear_69 (by decide) ?_
            refine lv_lstore (lv' := [(7, .long ((x * (((ra i) + (ra j)).toInt64)) / 10000)), (5, .long (x * (((ra i) + (ra j)).toInt64))), (0, .ref (ad 0)), (1, .int (nI i)), (2, .int (nI j)), (3, .long x)]) hx hb d_M_clear_70 hl (by decide) rfl (fun ls hl => ?_)
            refine lv_lload hx hb d_M_clear_72 (lv_at hl 0 rfl) ?_
            refine lv_lload hx hb d_M_clear_74 (lv_at hl 0 rfl) ?_
            refine lv_ldc2 (v := 10000) hx hb hown (hts _ kw_342) d_M_clear_76 ?_
            refine lv_lmul hx hb d_M_clear_79 ?_
            refine lv_lload hx hb d_M_clear_80 (lv_at hl 1 rfl) ?_
            refine W.lcmp hx hb d_M_clear_82 ?_
            refine lv_if_ge (tgt := 90) hx hb d_M_clear_83 (by decide) (fun c6 => ?_) (fun c6 => ?_)
            · replace c6 := (lg_cmp_ge _ _).mp c6
              refine lv_lconst (v := 0) hx hb d_M_clear_90 (by decide) ?_
              refine lv_ladd hx hb d_M_clear_91 ?_
              refine lv_topl (fun cs ecs => ?_)
              have e9 : cs = mcv x (ra i + ra j) := by rw [ecs]; unfold mcv; first | rw [if_pos (by assumption)] | rw [if_neg (by assumption)]
              subst e9
              refine lv_lstore (lv' := [(7, .long (mcv x (ra i + ra j))), (5, .long (x * (((ra i) + (ra j)).toInt64))), (0, .ref (ad 0)), (1, .int (nI i)), (2, .int (nI j)), (3, .long x)]) hx hb d_M_clear_92 hl (by decide) rfl (fun ls hl => ?_)
              refine lv_lload_n hx hb d_M_clear_94 rfl (lv_at hl 5 rfl) ?_
              refine lv_aload_n hx hb d_M_clear_95 rfl (lv_at hl 2 rfl) ?_
              refine va_get (D := (dC, dI)) (ci := 1) (v := .ref (ad 2)) (C := "ClearingBooksModel") (T := T_M) (N := 13) hx hb hts wi_M hown hK hP 0 rfl rfl 3 (by decide) (hts _ kw_276) (fun _ h9 => h9) rfl d_M_clear_96 ?_
              refine lv_iload_n hx hb d_M_clear_99 rfl (lv_at hl 4 rfl) ?_
              refine xa_iaload (f := ra) hx hb hK hP 2 0 rfl rfl (j := j) (by omega) (by decide) d_M_clear_100 ?_
              refine lv_i2l (v := (ra j).toInt64) hx hb d_M_clear_101 rfl ?_
              refine lv_lmul hx hb d_M_clear_102 ?_
              refine lv_ldc2 (v := 10000) hx hb hown (hts _ kw_342) d_M_clear_103 ?_
              refine lv_ldiv hx hb d_M_clear_106 (by decide) ?_
              refine lv_lstore (lv' := [(9, .long ((x * ((ra j).toInt64)) / 10000)), (7, .long (mcv x (ra i + ra j))), (5, .long (x * (((ra i) + (ra j)).toInt64))), (0, .ref (ad 0)), (1, .int (nI i)), (2, .int (nI j)), (3, .long x)]) hx hb d_M_clear_107 hl (by decide) rfl (fun ls hl => ?_)
              refine lv_aload_n hx hb d_M_clear_109 rfl (lv_at hl 3 rfl) ?_
              refine va_get (D := (dC, dI)) (ci := 1) (v := .ref (ad 3)) (C := "ClearingBooksModel") (T := T_M) (N := 13) hx hb hts wi_M hown hK hP 0 rfl rfl 4 (by decide) (hts _ kw_277) (fun _ h9 => h9) rfl d_M_clear_110 ?_
              refine lv_iload_n hx hb d_M_clear_113 rfl (lv_at hl 4 rfl) ?_
              refine lv_dup2_11 hx hb d_M_clear_114 rfl rfl ?_
              refine xa_laload (f := po) hx hb hK hP 3 1 rfl rfl (j := i) (by omega) (by decide) d_M_clear_115 ?_
              refine lv_lload_n hx hb d_M_clear_116 rfl (lv_at hl 6 rfl) ?_
              refine lv_lload hx hb d_M_clear_117 (lv_at hl 1 rfl) ?_
              refine lv_lsub hx hb d_M_clear_119 ?_
              refine lv_ladd hx hb d_M_clear_120 ?_
              refine xa_lastore (f := po) (x := (po i) + (x - (mcv x (ra i + ra j)))) hx hb hK hP hD hS 3 1 rfl rfl (j := i) (by omega) (by decide) d_M_clear_121 (fun H locs hP hD hS => ?_)
              have hP : va_P (dC, dI) vwCl (md_w ad cI cJ 0 n tc ki ra (vp_updL po i ((po i) + (x - (mcv x (ra i + ra j))))) se bc bs op pr pe pm) H := hP
              have hD : va_D A (md_w ad cI cJ 0 n tc ki ra (vp_updL po i ((po i) + (x - (mcv x (ra i + ra j))))) se bc bs op pr pe pm) := hD
              refine lv_aload_n hx hb d_M_clear_122 rfl (lv_at hl 3 rfl) ?_
              refine va_get (D := (dC, dI)) (ci := 1) (v := .ref (ad 3)) (C := "ClearingBooksModel") (T := T_M) (N := 13) hx hb hts wi_M hown hK hP 0 rfl rfl 4 (by decide) (hts _ kw_277) (fun _ h9 => h9) rfl d_M_clear_123 ?_
              refine lv_iload_n hx hb d_M_clear_126 rfl (lv_at hl 5 rfl) ?_
              refine lv_dup2_11 hx hb d_M_clear_127 rfl rfl ?_
              refine xa_laload (f := vp_updL po i ((po i) + (x - (mcv x (ra i + ra j))))) hx hb hK hP 3 1 rfl rfl (j := j) (by omega) (by decide) d_M_clear_128 ?_
              refine lv_lload hx hb d_M_clear_129 (lv_at hl 0 rfl) ?_
              refine lv_lload_n hx hb d_M_clear_131 rfl (lv_at hl 6 rfl) ?_
              refine lv_lsub hx hb d_M_clear_132 ?_
              refine lv_ladd hx hb d_M_clear_133 ?_
              refine xa_lastore (f := vp_updL po i ((po i) + (x - (mcv x (ra i + ra j))))) (x := ((vp_updL po i ((po i) + (x - (mcv x (ra i + ra j))))) j) + (((x * ((ra j).toInt64)) / 10000) - x)) hx hb hK hP hD hS 3 1 rfl rfl (j := j) (by omega) (by decide) d_M_clear_134 (fun H locs hP hD hS => ?_)
              have hP : va_P (dC, dI) vwCl (md_w ad cI cJ 0 n tc ki ra (vp_updL (vp_updL po i ((po i) + (x - (mcv x (ra i + ra j))))) j (((vp_updL po i ((po i) + (x - (mcv x (ra i + ra j))))) j) + (((x * ((ra j).toInt64)) / 10000) - x))) se bc bs op pr pe pm) H := hP
              have hD : va_D A (md_w ad cI cJ 0 n tc ki ra (vp_updL (vp_updL po i ((po i) + (x - (mcv x (ra i + ra j))))) j (((vp_updL po i ((po i) + (x - (mcv x (ra i + ra j))))) j) + (((x * ((ra j).toInt64)) / 10000) - x))) se bc bs op pr pe pm) := hD
              refine lv_aload_n hx hb d_M_clear_135 rfl (lv_at hl 3 rfl) ?_
              refine va_get (D := (dC, dI)) (ci := 1) (v := .ref (ad 3)) (C := "ClearingBooksModel") (T := T_M) (N := 13) hx hb hts wi_M hown hK hP 0 rfl rfl 4 (by decide) (hts _ kw_277) (fun _ h9 => h9) rfl d_M_clear_136 ?_
              refine lv_iconst (v := nI 0) hx hb d_M_clear_139 (by decide) ?_
              refine lv_dup2_11 hx hb d_M_clear_140 rfl rfl ?_
              refine xa_laload (f := vp_updL (vp_updL po i ((po i) + (x - (mcv x (ra i + ra j))))) j (((vp_updL po i ((po i) + (x - (mcv x (ra i + ra j))))) j) + (((x * ((ra j).toInt64)) / 10000) - x))) hx hb hK hP 3 1 rfl rfl (j := 0) (by omega) (by decide) d_M_clear_141 ?_
              refine lv_lload hx hb d_M_clear_142 (lv_at hl 1 rfl) ?_
              refine lv_lload hx hb d_M_clear_144 (lv_at hl 0 rfl) ?_
              refine lv_lsub hx hb d_M_clear_146 ?_
              refine lv_ladd hx hb d_M_clear_147 ?_
              refine xa_lastore (f := vp_updL (vp_updL po i ((po i) + (x - (mcv x (ra i + ra j))))) j (((vp_updL po i ((po i) + (x - (mcv x (ra i + ra j))))) j) + (((x * ((ra j).toInt64)) / 10000) - x))) (x := ((vp_updL (vp_updL po i ((po i) + (x - (mcv x (ra i + ra j))))) j (((vp_updL po i ((po i) + (x - (mcv x (ra i + ra j))))) j) + (((x * ((ra j).toInt64)) / 10000) - x))) 0) + ((mcv x (ra i + ra j)) - ((x * ((ra j).toInt64)) / 10000))) hx hb hK hP hD hS 3 1 rfl rfl (j := 0) (by omega) (by decide) d_M_clear_148 (fun H locs hP hD hS => ?_)
              have hP : va_P (dC, dI) vwCl (md_w ad cI cJ 0 n tc ki ra (vp_updL (vp_updL (vp_updL po i ((po i) + (x - (mcv x (ra i + ra j))))) j (((vp_updL po i ((po i) + (x - (mcv x (ra i + ra j))))) j) + (((x * ((ra j).toInt64)) / 10000) - x))) 0 (((vp_updL (vp_updL po i ((po i) + (x - (mcv x (ra i + ra j))))) j (((vp_updL po i ((po i) + (x - (mcv x (ra i + ra j))))) j) + (((x * ((ra j).toInt64)) / 10000) - x))) 0) + ((mcv x (ra i + ra j)) - ((x * ((ra j).toInt64)) / 10000)))) se bc bs op pr pe pm) H := hP
              have hD : va_D A (md_w ad cI cJ 0 n tc ki ra (vp_updL (vp_updL (vp_updL po i ((po i) + (x - (mcv x (ra i + ra j))))) j (((vp_updL po i ((po i) + (x - (mcv x (ra i + ra j))))) j) + (((x * ((ra j).toInt64)) / 10000) - x))) 0 (((vp_updL (vp_updL po i ((po i) + (x - (mcv x (ra i + ra j))))) j (((vp_updL po i ((po i) + (x - (mcv x (ra i + ra j))))) j) + (((x * ((ra j).toInt64)) / 10000) - x))) 0) + ((mcv x (ra i + ra j)) - ((x * ((ra j).toInt64)) / 10000)))) se bc bs op pr pe pm) := hD
              refine lv_aload_n hx hb d_M_clear_149 rfl (lv_at hl 3 rfl) ?_
              refine va_get (D := (dC, dI)) (ci := 1) (v := .ref (ad 5)) (C := "ClearingBooksModel") (T := T_M) (N := 13) hx hb hts wi_M hown hK hP 0 rfl rfl 6 (by decide) (hts _ kw_279) (fun _ h9 => h9) rfl d_M_clear_150 ?_
              refine lv_iload_n hx hb d_M_clear_153 rfl (lv_at hl 4 rfl) ?_
              refine lv_dup2_11 hx hb d_M_clear_154 rfl rfl ?_
              refine xa_iaload (f := bc) hx hb hK hP 5 0 rfl rfl (j := i) (by omega) (by decide) d_M_clear_155 ?_
              refine lv_iconst (v := nI 1) hx hb d_M_clear_156 (by decide) ?_
              refine lv_iadd hx hb d_M_clear_157 ?_
              refine xa_iastore (f := bc) (x := (bc i) + (nI 1)) hx hb hK hP hD hS 5 0 rfl rfl (j := i) (by omega) (by decide) d_M_clear_158 (fun H locs hP hD hS => ?_)
              have hP : va_P (dC, dI) vwCl (md_w ad cI cJ 0 n tc ki ra (vp_updL (vp_updL (vp_updL po i ((po i) + (x - (mcv x (ra i + ra j))))) j (((vp_updL po i ((po i) + (x - (mcv x (ra i + ra j))))) j) + (((x * ((ra j).toInt64)) / 10000) - x))) 0 (((vp_updL (vp_updL po i ((po i) + (x - (mcv x (ra i + ra j))))) j (((vp_updL po i ((po i) + (x - (mcv x (ra i + ra j))))) j) + (((x * ((ra j).toInt64)) / 10000) - x))) 0) + ((mcv x (ra i + ra j)) - ((x * ((ra j).toInt64)) / 10000)))) se (upd bc i ((bc i) + (nI 1))) bs op pr pe pm) H := hP
              have hD : va_D A (md_w ad cI cJ 0 n tc ki ra (vp_updL (vp_updL (vp_updL po i ((po i) + (x - (mcv x (ra i + ra j))))) j (((vp_updL po i ((po i) + (x - (mcv x (ra i + ra j))))) j) + (((x * ((ra j).toInt64)) / 10000) - x))) 0 (((vp_updL (vp_updL po i ((po i) + (x - (mcv x (ra i + ra j))))) j (((vp_updL po i ((po i) + (x - (mcv x (ra i + ra j))))) j) + (((x * ((ra j).toInt64)) / 10000) - x))) 0) + ((mcv x (ra i + ra j)) - ((x * ((ra j).toInt64)) / 10000)))) se (upd bc i ((bc i) + (nI 1))) bs op pr pe pm) := hD
              refine lv_aload_n hx hb d_M_clear_159 rfl (lv_at hl 3 rfl) ?_
              refine va_get (D := (dC, dI)) (ci := 1) (v := .ref (ad 6)) (C := "ClearingBooksModel") (T := T_M) (N := 13) hx hb hts wi_M hown hK hP 0 rfl rfl 7 (by decide) (hts _ kw_280) (fun _ h9 => h9) rfl d_M_clear_160 ?_
              refine lv_iload_n hx hb d_M_clear_163 rfl (lv_at hl 4 rfl) ?_
              refine lv_dup2_11 hx hb d_M_clear_164 rfl rfl ?_
              refine xa_laload (f := bs) hx hb hK hP 6 1 rfl rfl (j := i) (by omega) (by decide) d_M_clear_165 ?_
              refine lv_lload_n hx hb d_M_clear_166 rfl (lv_at hl 6 rfl) ?_
              refine lv_ladd hx hb d_M_clear_167 ?_
              refine xa_lastore (f := bs) (x := (bs i) + x) hx hb hK hP hD hS 6 1 rfl rfl (j := i) (by omega) (by decide) d_M_clear_168 (fun H locs hP hD hS => ?_)
              have hP : va_P (dC, dI) vwCl (md_w ad cI cJ 0 n tc ki ra (vp_updL (vp_updL (vp_updL po i ((po i) + (x - (mcv x (ra i + ra j))))) j (((vp_updL po i ((po i) + (x - (mcv x (ra i + ra j))))) j) + (((x * ((ra j).toInt64)) / 10000) - x))) 0 (((vp_updL (vp_updL po i ((po i) + (x - (mcv x (ra i + ra j))))) j (((vp_updL po i ((po i) + (x - (mcv x (ra i + ra j))))) j) + (((x * ((ra j).toInt64)) / 10000) - x))) 0) + ((mcv x (ra i + ra j)) - ((x * ((ra j).toInt64)) / 10000)))) se (upd bc i ((bc i) + (nI 1))) (vp_updL bs i ((bs i) + x)) op pr pe pm) H := hP
              have hD : va_D A (md_w ad cI cJ 0 n tc ki ra (vp_updL (vp_updL (vp_updL po i ((po i) + (x - (mcv x (ra i + ra j))))) j (((vp_updL po i ((po i) + (x - (mcv x (ra i + ra j))))) j) + (((x * ((ra j).toInt64)) / 10000) - x))) 0 (((vp_updL (vp_updL po i ((po i) + (x - (mcv x (ra i + ra j))))) j (((vp_updL po i ((po i) + (x - (mcv x (ra i + ra j))))) j) + (((x * ((ra j).toInt64)) / 10000) - x))) 0) + ((mcv x (ra i + ra j)) - ((x * ((ra j).toInt64)) / 10000)))) se (upd bc i ((bc i) + (nI 1))) (vp_updL bs i ((bs i) + x)) op pr pe pm) := hD
              refine lv_lload hx hb d_M_clear_169 (lv_at hl 1 rfl) ?_
              exact W.lret (v := mcv x (ra i + ra j)) hx hb hr (fun t ht hW => ⟨⟨mcv x (ra i + ra j), (), rfl, rfl, by rw [ht]; exact hP, va_K.moved hW.alike hK, hD⟩, hS.F ht⟩) hS.2.2 d_M_clear_171
            · replace c6 := mt (lg_cmp_ge _ _).mpr c6
              refine lv_lconst (v := 1) hx hb d_M_clear_86 (by decide) ?_
              refine lv_goto (tgt := 91) hx hb d_M_clear_87 (by decide) ?_
              refine lv_ladd hx hb d_M_clear_91 ?_
              refine lv_topl (fun cs ecs => ?_)
              have e9 : cs = mcv x (ra i + ra j) := by rw [ecs]; unfold mcv; first | rw [if_pos (by assumption)] | rw [if_neg (by assumption)]
              subst e9
              refine lv_lstore (lv' := [(7, .long (mcv x (ra i + ra j))), (5, .long (x * (((ra i) + (ra j)).toInt64))), (0, .ref (ad 0)), (1, .int (nI i)), (2, .int (nI j)), (3, .long x)]) hx hb d_M_clear_92 hl (by decide) rfl (fun ls hl => ?_)
              refine lv_lload_n hx hb d_M_clear_94 rfl (lv_at hl 5 rfl) ?_
              refine lv_aload_n hx hb d_M_clear_95 rfl (lv_at hl 2 rfl) ?_
              refine va_get (D := (dC, dI)) (ci := 1) (v := .ref (ad 2)) (C := "ClearingBooksModel") (T := T_M) (N := 13) hx hb hts wi_M hown hK hP 0 rfl rfl 3 (by decide) (hts _ kw_276) (fun _ h9 => h9) rfl d_M_clear_96 ?_
              refine lv_iload_n hx hb d_M_clear_99 rfl (lv_at hl 4 rfl) ?_
              refine xa_iaload (f := ra) hx hb hK hP 2 0 rfl rfl (j := j) (by omega) (by decide) d_M_clear_100 ?_
              refine lv_i2l (v := (ra j).toInt64) hx hb d_M_clear_101 rfl ?_
              refine lv_lmul hx hb d_M_clear_102 ?_
              refine lv_ldc2 (v := 10000) hx hb hown (hts _ kw_342) d_M_clear_103 ?_
              refine lv_ldiv hx hb d_M_clear_106 (by decide) ?_
              refine lv_lstore (lv' := [(9, .long ((x * ((ra j).toInt64)) / 10000)), (7, .long (mcv x (ra i + ra j))), (5, .long (x * (((ra i) + (ra j)).toInt64))), (0, .ref (ad 0)), (1, .int (nI i)), (2, .int (nI j)), (3, .long x)]) hx hb d_M_clear_107 hl (by decide) rfl (fun ls hl => ?_)
              refine lv_aload_n hx hb d_M_clear_109 rfl (lv_at hl 3 rfl) ?_
              refine va_get (D := (dC, dI)) (ci := 1) (v := .ref (ad 3)) (C := "ClearingBooksModel") (T := T_M) (N := 13) hx hb hts wi_M hown hK hP 0 rfl rfl 4 (by decide) (hts _ kw_277) (fun _ h9 => h9) rfl d_M_clear_110 ?_
              refine lv_iload_n hx hb d_M_clear_113 rfl (lv_at hl 4 rfl) ?_
              refine lv_dup2_11 hx hb d_M_clear_114 rfl rfl ?_
              refine xa_laload (f := po) hx hb hK hP 3 1 rfl rfl (j := i) (by omega) (by decide) d_M_clear_115 ?_
              refine lv_lload_n hx hb d_M_clear_116 rfl (lv_at hl 6 rfl) ?_
              refine lv_lload hx hb d_M_clear_117 (lv_at hl 1 rfl) ?_
              refine lv_lsub hx hb d_M_clear_119 ?_
              refine lv_ladd hx hb d_M_clear_120 ?_
              refine xa_lastore (f := po) (x := (po i) + (x - (mcv x (ra i + ra j)))) hx hb hK hP hD hS 3 1 rfl rfl (j := i) (by omega) (by decide) d_M_clear_121 (fun H locs hP hD hS => ?_)
              have hP : va_P (dC, dI) vwCl (md_w ad cI cJ 0 n tc ki ra (vp_updL po i ((po i) + (x - (mcv x (ra i + ra j))))) se bc bs op pr pe pm) H := hP
              have hD : va_D A (md_w ad cI cJ 0 n tc ki ra (vp_updL po i ((po i) + (x - (mcv x (ra i + ra j))))) se bc bs op pr pe pm) := hD
              refine lv_aload_n hx hb d_M_clear_122 rfl (lv_at hl 3 rfl) ?_
              refine va_get (D := (dC, dI)) (ci := 1) (v := .ref (ad 3)) (C := "ClearingBooksModel") (T := T_M) (N := 13) hx hb hts wi_M hown hK hP 0 rfl rfl 4 (by decide) (hts _ kw_277) (fun _ h9 => h9) rfl d_M_clear_123 ?_
              refine lv_iload_n hx hb d_M_clear_126 rfl (lv_at hl 5 rfl) ?_
              refine lv_dup2_11 hx hb d_M_clear_127 rfl rfl ?_
              refine xa_laload (f := vp_updL po i ((po i) + (x - (mcv x (ra i + ra j))))) hx hb hK hP 3 1 rfl rfl (j := j) (by omega) (by decide) d_M_clear_128 ?_
              refine lv_lload hx hb d_M_clear_129 (lv_at hl 0 rfl) ?_
              refine lv_lload_n hx hb d_M_clear_131 rfl (lv_at hl 6 rfl) ?_
              refine lv_lsub hx hb d_M_clear_132 ?_
              refine lv_ladd hx hb d_M_clear_133 ?_
              refine xa_lastore (f := vp_updL po i ((po i) + (x - (mcv x (ra i + ra j))))) (x := ((vp_updL po i ((po i) + (x - (mcv x (ra i + ra j))))) j) + (((x * ((ra j).toInt64)) / 10000) - x)) hx hb hK hP hD hS 3 1 rfl rfl (j := j) (by omega) (by decide) d_M_clear_134 (fun H locs hP hD hS => ?_)
              have hP : va_P (dC, dI) vwCl (md_w ad cI cJ 0 n tc ki ra (vp_updL (vp_updL po i ((po i) + (x - (mcv x (ra i + ra j))))) j (((vp_updL po i ((po i) + (x - (mcv x (ra i + ra j))))) j) + (((x * ((ra j).toInt64)) / 10000) - x))) se bc bs op pr pe pm) H := hP
              have hD : va_D A (md_w ad cI cJ 0 n tc ki ra (vp_updL (vp_updL po i ((po i) + (x - (mcv x (ra i + ra j))))) j (((vp_updL po i ((po i) + (x - (mcv x (ra i + ra j))))) j) + (((x * ((ra j).toInt64)) / 10000) - x))) se bc bs op pr pe pm) := hD
              refine lv_aload_n hx hb d_M_clear_135 rfl (lv_at hl 3 rfl) ?_
              refine va_get (D := (dC, dI)) (ci := 1) (v := .ref (ad 3)) (C := "ClearingBooksModel") (T := T_M) (N := 13) hx hb hts wi_M hown hK hP 0 rfl rfl 4 (by decide) (hts _ kw_277) (fun _ h9 => h9) rfl d_M_clear_136 ?_
              refine lv_iconst (v := nI 0) hx hb d_M_clear_139 (by decide) ?_
              refine lv_dup2_11 hx hb d_M_clear_140 rfl rfl ?_
              refine xa_laload (f := vp_updL (vp_updL po i ((po i) + (x - (mcv x (ra i + ra j))))) j (((vp_updL po i ((po i) + (x - (mcv x (ra i + ra j))))) j) + (((x * ((ra j).toInt64)) / 10000) - x))) hx hb hK hP 3 1 rfl rfl (j := 0) (by omega) (by decide) d_M_clear_141 ?_
              refine lv_lload hx hb d_M_clear_142 (lv_at hl 1 rfl) ?_
              refine lv_lload hx hb d_M_clear_144 (lv_at hl 0 rfl) ?_
              refine lv_lsub hx hb d_M_clear_146 ?_
              refine lv_ladd hx hb d_M_clear_147 ?_
              refine xa_lastore (f := vp_updL (vp_updL po i ((po i) + (x - (mcv x (ra i + ra j))))) j (((vp_updL po i ((po i) + (x - (mcv x (ra i + ra j))))) j) + (((x * ((ra j).toInt64)) / 10000) - x))) (x := ((vp_updL (vp_updL po i ((po i) + (x - (mcv x (ra i + ra j))))) j (((vp_updL po i ((po i) + (x - (mcv x (ra i + ra j))))) j) + (((x * ((ra j).toInt64)) / 10000) - x))) 0) + ((mcv x (ra i + ra j)) - ((x * ((ra j).toInt64)) / 10000))) hx hb hK hP hD hS 3 1 rfl rfl (j := 0) (by omega) (by decide) d_M_clear_148 (fun H locs hP hD hS => ?_)
              have hP : va_P (dC, dI) vwCl (md_w ad cI cJ 0 n tc ki ra (vp_updL (vp_updL (vp_updL po i ((po i) + (x - (mcv x (ra i + ra j))))) j (((vp_updL po i ((po i) + (x - (mcv x (ra i + ra j))))) j) + (((x * ((ra j).toInt64)) / 10000) - x))) 0 (((vp_updL (vp_updL po i ((po i) + (x - (mcv x (ra i + ra j))))) j (((vp_updL po i ((po i) + (x - (mcv x (ra i + ra j))))) j) + (((x * ((ra j).toInt64)) / 10000) - x))) 0) + ((mcv x (ra i + ra j)) - ((x * ((ra j).toInt64)) / 10000)))) se bc bs op pr pe pm) H := hP
              have hD : va_D A (md_w ad cI cJ 0 n tc ki ra (vp_updL (vp_updL (vp_updL po i ((po i) + (x - (mcv x (ra i + ra j))))) j (((vp_updL po i ((po i) + (x - (mcv x (ra i + ra j))))) j) + (((x * ((ra j).toInt64)) / 10000) - x))) 0 (((vp_updL (vp_updL po i ((po i) + (x - (mcv x (ra i + ra j))))) j (((vp_updL po i ((po i) + (x - (mcv x (ra i + ra j))))) j) + (((x * ((ra j).toInt64)) / 10000) - x))) 0) + ((mcv x (ra i + ra j)) - ((x * ((ra j).toInt64)) / 10000)))) se bc bs op pr pe pm) := hD
              refine lv_aload_n hx hb d_M_clear_149 rfl (lv_at hl 3 rfl) ?_
              refine va_get (D := (dC, dI)) (ci := 1) (v := .ref (ad 5)) (C := "ClearingBooksModel") (T := T_M) (N := 13) hx hb hts wi_M hown hK hP 0 rfl rfl 6 (by decide) (hts _ kw_279) (fun _ h9 => h9) rfl d_M_clear_150 ?_
              refine lv_iload_n hx hb d_M_clear_153 rfl (lv_at hl 4 rfl) ?_
              refine lv_dup2_11 hx hb d_M_clear_154 rfl rfl ?_
              refine xa_iaload (f := bc) hx hb hK hP 5 0 rfl rfl (j := i) (by omega) (by decide) d_M_clear_155 ?_
              refine lv_iconst (v := nI 1) hx hb d_M_clear_156 (by decide) ?_
              refine lv_iadd hx hb d_M_clear_157 ?_
              refine xa_iastore (f := bc) (x := (bc i) + (nI 1)) hx hb hK hP hD hS 5 0 rfl rfl (j := i) (by omega) (by decide) d_M_clear_158 (fun H locs hP hD hS => ?_)
              have hP : va_P (dC, dI) vwCl (md_w ad cI cJ 0 n tc ki ra (vp_updL (vp_updL (vp_updL po i ((po i) + (x - (mcv x (ra i + ra j))))) j (((vp_updL po i ((po i) + (x - (mcv x (ra i + ra j))))) j) + (((x * ((ra j).toInt64)) / 10000) - x))) 0 (((vp_updL (vp_updL po i ((po i) + (x - (mcv x (ra i + ra j))))) j (((vp_updL po i ((po i) + (x - (mcv x (ra i + ra j))))) j) + (((x * ((ra j).toInt64)) / 10000) - x))) 0) + ((mcv x (ra i + ra j)) - ((x * ((ra j).toInt64)) / 10000)))) se (upd bc i ((bc i) + (nI 1))) bs op pr pe pm) H := hP
              have hD : va_D A (md_w ad cI cJ 0 n tc ki ra (vp_updL (vp_updL (vp_updL po i ((po i) + (x - (mcv x (ra i + ra j))))) j (((vp_updL po i ((po i) + (x - (mcv x (ra i + ra j))))) j) + (((x * ((ra j).toInt64)) / 10000) - x))) 0 (((vp_updL (vp_updL po i ((po i) + (x - (mcv x (ra i + ra j))))) j (((vp_updL po i ((po i) + (x - (mcv x (ra i + ra j))))) j) + (((x * ((ra j).toInt64)) / 10000) - x))) 0) + ((mcv x (ra i + ra j)) - ((x * ((ra j).toInt64)) / 10000)))) se (upd bc i ((bc i) + (nI 1))) bs op pr pe pm) := hD
              refine lv_aload_n hx hb d_M_clear_159 rfl (lv_at hl 3 rfl) ?_
              refine va_get (D := (dC, dI)) (ci := 1) (v := .ref (ad 6)) (C := "ClearingBooksModel") (T := T_M) (N := 13) hx hb hts wi_M hown hK hP 0 rfl rfl 7 (by decide) (hts _ kw_280) (fun _ h9 => h9) rfl d_M_clear_160 ?_
              refine lv_iload_n hx hb d_M_clear_163 rfl (lv_at hl 4 rfl) ?_
              refine lv_dup2_11 hx hb d_M_clear_164 rfl rfl ?_
              refine xa_laload (f := bs) hx hb hK hP 6 1 rfl rfl (j := i) (by omega) (by decide) d_M_clear_165 ?_
              refine lv_lload_n hx hb d_M_clear_166 rfl (lv_at hl 6 rfl) ?_
              refine lv_ladd hx hb d_M_clear_167 ?_
              refine xa_lastore (f := bs) (x := (bs i) + x) hx hb hK hP hD hS 6 1 rfl rfl (j := i) (by omega) (by decide) d_M_clear_168 (fun H locs hP hD hS => ?_)
              have hP : va_P (dC, dI) vwCl (md_w ad cI cJ 0 n tc ki ra (vp_updL (vp_updL (vp_updL po i ((po i) + (x - (mcv x (ra i + ra j))))) j (((vp_updL po i ((po i) + (x - (mcv x (ra i + ra j))))) j) + (((x * ((ra j).toInt64)) / 10000) - x))) 0 (((vp_updL (vp_updL po i ((po i) + (x - (mcv x (ra i + ra j))))) j (((vp_updL po i ((po i) + (x - (mcv x (ra i + ra j))))) j) + (((x * ((ra j).toInt64)) / 10000) - x))) 0) + ((mcv x (ra i + ra j)) - ((x * ((ra j).toInt64)) / 10000)))) se (upd bc i ((bc i) + (nI 1))) (vp_updL bs i ((bs i) + x)) op pr pe pm) H := hP
              have hD : va_D A (md_w ad cI cJ 0 n tc ki ra (vp_updL (vp_updL (vp_updL po i ((po i) + (x - (mcv x (ra i + ra j))))) j (((vp_updL po i ((po i) + (x - (mcv x (ra i + ra j))))) j) + (((x * ((ra j).toInt64)) / 10000) - x))) 0 (((vp_updL (vp_updL po i ((po i) + (x - (mcv x (ra i + ra j))))) j (((vp_updL po i ((po i) + (x - (mcv x (ra i + ra j))))) j) + (((x * ((ra j).toInt64)) / 10000) - x))) 0) + ((mcv x (ra i + ra j)) - ((x * ((ra j).toInt64)) / 10000)))) se (upd bc i ((bc i) + (nI 1))) (vp_updL bs i ((bs i) + x)) op pr pe pm) := hD
              refine lv_lload hx hb d_M_clear_169 (lv_at hl 1 rfl) ?_
              exact W.lret (v := mcv x (ra i + ra j)) hx hb hr (fun t ht hW => ⟨⟨mcv x (ra i + ra j), (), rfl, rfl, by rw [ht]; exact hP, va_K.moved hW.alike hK, hD⟩, hS.F ht⟩) hS.2.2 d_M_clear_171
          · exact absurd c5 (by decide)
set_option maxHeartbeats 4000000 in
set_option maxRecDepth 100000 in
theorem m_clear_ta (l : Launch) (dC : Nat → ClassId) (dI : Nat → Nat → Nat) (ad : Nat → Nat) (cI cJ : ClassId) (cd n tc : Nat) (ki ra : Nat → Int32) (po se : Nat → Int64) (bc : Nat → Int32) (bs op : Nat → Int64) (pr pe : Nat → Int32) (pm : Nat → Int64) (sz : Nat) (a b : Int32) (x : Int64) (hn : n ≤ 15) (hno : ¬ is_k n ki a (nI 1)) : Met l y_M_clear (.code y_M_clear b_M_clear 11 (some .long) :: wAll) ({ frames := 1, cells := 0, slots := 0, locals := 22 } : Room) (mu_P [.ref (ad 0), .int a, .int b, .long x] (dC, dI) vwCl [(cI, .int), (cJ, .long)] (md_w ad cI cJ cd n tc ki ra po se bc bs op pr pe pm) sz) (va_Ql (fun (z : Int64) (_ : Unit) => z = 0) (mu_B (dC, dI) vwCl [(cI, .int), (cJ, .long)] (va_A (md_w ad cI cJ cd n tc ki ra po se bc bs op pr pe pm) sz) (md_w ad cI cJ 1 n tc ki ra po se bc bs op pr pe pm)) (va_A (md_w ad cI cJ cd n tc ki ra po se bc bs op pr pe pm) sz)) 0 0 (va_A (md_w ad cI cJ cd n tc ki ra po se bc bs op pr pe pm) sz) := by
  refine Met.ofW (cc := b_M_clear) (maxL := 11) (ret := (some .long)) (by decide) rfl ?_
  intro p e s m args below meth c s₁ B hml hv
  obtain ⟨rfl, hsz, hP, hK, hD0⟩ := hv
  have hx := B.exec
  have hb := B.bytes
  have hr := B.returns
  have hts0 := atoms_spec (ws := (.code y_M_clear b_M_clear 11 (some .long) :: wAll)) B.pre
  have hts := hts_all hts0
  have hown : s.vm.findClass "ClearingBooksModel" = some m.cls := findClass_of_methodNamed B.named
  have hlocks := B.notSynchronized
  subst hsz
  have hD := hD0.self (sz := s.heap.size)
  generalize hAe : va_A (md_w ad cI cJ cd n tc ki ra po se bc bs op pr pe pm) s.heap.size = A at hD ⊢
  have hA : ∀ q : Nat, s.heap.size ≤ q → A q := fun q h => by rw [← hAe]; exact Or.inr h
  have hS : va_S A s.heap s.heap [] := va_S.rf
  have hl := lv_entry ([.ref (ad 0), .int a, .int b, .long x]) (n := 11) (Nat.le_of_ble_eq_true rfl)
  rw [lg_entry_eq]
  generalize (lg_sl ([.ref (ad 0), .int a, .int b, .long x]) ++ List.replicate (11 - (lg_sl ([.ref (ad 0), .int a, .int b, .long x])).length) Slot.unset).toArray = ls at hl ⊢
  have hl : lv_has ls 11 [(0, .ref (ad 0)), (1, .int a), (2, .int b), (3, .long x)] := hl
  refine lv_aload_n hx hb d_M_clear_0 rfl (lv_at hl 0 rfl) ?_
  refine lv_aload_n hx hb d_M_clear_1 rfl (lv_at hl 0 rfl) ?_
  refine lv_iload_n hx hb d_M_clear_2 rfl (lv_at hl 1 rfl) ?_
  refine lv_iconst (v := nI 1) hx hb d_M_clear_3 (by decide) ?_
  refine ro_call (va_runV (As := [.int a, .int (nI 1)]) (rest := [.ref (ad 0)]) ⟨hx, hb, hml, hown, hts⟩ (m_is_n l dC dI ad cI cJ cd n tc ki ra po se bc bs op pr pe pm a (nI 1) hn hno) (cwV 2 hts (wAll_v kw_333 kw_335 ks_11 kw_2 kw_336) rfl rfl rfl (by decide +kernel) ⟨Nat.le_of_ble_eq_true rfl, Nat.le_of_ble_eq_true rfl⟩) (ro_preV bl_tt hK hP (ci := 1) (q0 := 0) rfl rfl (fun _ _ _ => trivial)) rfl rfl hl.1 rfl (lv_room (Nat.le_of_ble_eq_true rfl)) d_M_clear_4 ⟨Nat.le_of_ble_eq_true rfl, Nat.le_of_ble_eq_true rfl⟩) ?_
  refine W.eq (g2 := F0 m 7 ls [.int (nI 0), .ref (ad 0)]) rfl ?_
  refine lv_if_eq (tgt := 37) hx hb d_M_clear_7 (by decide) (fun c1 => ?_) (fun c1 => ?_)
  · refine lv_iconst (v := nI 0) hx hb d_M_clear_37 (by decide) ?_
    refine mu_calli (va_runV (As := [.int (nI 0)]) (rest := []) ⟨hx, hb, hml, hown, hts⟩ (m_goes_n l dC dI ad cI cJ cd n tc ki ra po se bc bs op pr pe pm _ ) (cwV 1 hts (wAll_v kw_338 kw_340 ks_12 kw_2 kw_341) rfl rfl rfl (by decide +kernel) ⟨Nat.le_of_ble_eq_true rfl, Nat.le_of_ble_eq_true rfl⟩) (mu_preV hK hP hD (ci := 1) (q0 := 0) rfl rfl) rfl rfl hl.1 rfl (lv_room (Nat.le_of_ble_eq_true rfl)) d_M_clear_38 ⟨Nat.le_of_ble_eq_true rfl, Nat.le_of_ble_eq_true rfl⟩) hD hS hA (fun r H locs hq hP hD hS => ?_)
    obtain rfl := hq
    have hP : va_P (dC, dI) vwCl (md_w ad cI cJ 1 n tc ki ra po se bc bs op pr pe pm) H := hP
    have hD : va_D A (md_w ad cI cJ 1 n tc ki ra po se bc bs op pr pe pm) := hD
    refine lv_if_ne (tgt := 46) hx hb d_M_clear_41 (by decide) (fun c2 => ?_) (fun c2 => ?_)
    · exact absurd rfl c2
    · refine lv_lconst (v := 0) hx hb d_M_clear_44 (by decide) ?_
      exact W.lret (v := 0) hx hb hr (fun t ht hW => ⟨⟨0, (), rfl, rfl, by rw [ht]; exact hP, va_K.moved hW.alike hK, hD⟩, hS.F ht⟩) hS.2.2 d_M_clear_45
  · exact absurd rfl c1
set_option maxHeartbeats 4000000 in
set_option maxRecDepth 100000 in
theorem m_clear_tb (l : Launch) (dC : Nat → ClassId) (dI : Nat → Nat → Nat) (ad : Nat → Nat) (cI cJ : ClassId) (cd n tc : Nat) (ki ra : Nat → Int32) (po se : Nat → Int64) (bc : Nat → Int32) (bs op : Nat → Int64) (pr pe : Nat → Int32) (pm : Nat → Int64) (sz : Nat) (i : Nat) (b : Int32) (x : Int64) (h0i : 0 < i) (hji : i < n) (hn : n ≤ 15) (hki : ki i = nI 1) (hno : ¬ is_k n ki b (nI 2)) : Met l y_M_clear (.code y_M_clear b_M_clear 11 (some .long) :: wAll) ({ frames := 1, cells := 0, slots := 0, locals := 22 } : Room) (mu_P [.ref (ad 0), .int (nI i), .int b, .long x] (dC, dI) vwCl [(cI, .int), (cJ, .long)] (md_w ad cI cJ cd n tc ki ra po se bc bs op pr pe pm) sz) (va_Ql (fun (z : Int64) (_ : Unit) => z = 0) (mu_B (dC, dI) vwCl [(cI, .int), (cJ, .long)] (va_A (md_w ad cI cJ cd n tc ki ra po se bc bs op pr pe pm) sz) (md_w ad cI cJ 1 n tc ki ra po se bc bs op pr pe pm)) (va_A (md_w ad cI cJ cd n tc ki ra po se bc bs op pr pe pm) sz)) 0 0 (va_A (md_w ad cI cJ cd n tc ki ra po se bc bs op pr pe pm) sz) := by
  refine Met.ofW (cc := b_M_clear) (maxL := 11) (ret := (some .long)) (by decide) rfl ?_
  intro p e s m args below meth c s₁ B hml hv
  obtain ⟨rfl, hsz, hP, hK, hD0⟩ := hv
  have hx := B.exec
  have hb := B.bytes
  have hr := B.returns
  have hts0 := atoms_spec (ws := (.code y_M_clear b_M_clear 11 (some .long) :: wAll)) B.pre
  have hts := hts_all hts0
  have hown : s.vm.findClass "ClearingBooksModel" = some m.cls := findClass_of_methodNamed B.named
  have hlocks := B.notSynchronized
  subst hsz
  have hD := hD0.self (sz := s.heap.size)
  generalize hAe : va_A (md_w ad cI cJ cd n tc ki ra po se bc bs op pr pe pm) s.heap.size = A at hD ⊢
  have hA : ∀ q : Nat, s.heap.size ≤ q → A q := fun q h => by rw [← hAe]; exact Or.inr h
  have hS : va_S A s.heap s.heap [] := va_S.rf
  have hl := lv_entry ([.ref (ad 0), .int (nI i), .int b, .long x]) (n := 11) (Nat.le_of_ble_eq_true rfl)
  rw [lg_entry_eq]
  generalize (lg_sl ([.ref (ad 0), .int (nI i), .int b, .long x]) ++ List.replicate (11 - (lg_sl ([.ref (ad 0), .int (nI i), .int b, .long x])).length) Slot.unset).toArray = ls at hl ⊢
  have hl : lv_has ls 11 [(0, .ref (ad 0)), (1, .int (nI i)), (2, .int b), (3, .long x)] := hl
  refine lv_aload_n hx hb d_M_clear_0 rfl (lv_at hl 0 rfl) ?_
  refine lv_aload_n hx hb d_M_clear_1 rfl (lv_at hl 0 rfl) ?_
  refine lv_iload_n hx hb d_M_clear_2 rfl (lv_at hl 1 rfl) ?_
  refine lv_iconst (v := nI 1) hx hb d_M_clear_3 (by decide) ?_
  refine ro_call (va_runV (As := [.int (nI i), .int (nI 1)]) (rest := [.ref (ad 0)]) ⟨hx, hb, hml, hown, hts⟩ (m_is_y l dC dI ad cI cJ cd n tc ki ra po se bc bs op pr pe pm i (nI 1) h0i hji hn hki) (cwV 2 hts (wAll_v kw_333 kw_335 ks_11 kw_2 kw_336) rfl rfl rfl (by decide +kernel) ⟨Nat.le_of_ble_eq_true rfl, Nat.le_of_ble_eq_true rfl⟩) (ro_preV bl_tt hK hP (ci := 1) (q0 := 0) rfl rfl (fun _ _ _ => trivial)) rfl rfl hl.1 rfl (lv_room (Nat.le_of_ble_eq_true rfl)) d_M_clear_4 ⟨Nat.le_of_ble_eq_true rfl, Nat.le_of_ble_eq_true rfl⟩) ?_
  refine W.eq (g2 := F0 m 7 ls [.int (nI 1), .ref (ad 0)]) rfl ?_
  refine lv_if_eq (tgt := 37) hx hb d_M_clear_7 (by decide) (fun c1 => ?_) (fun c1 => ?_)
  · exact absurd c1 (by decide)
  · refine lv_aload_n hx hb d_M_clear_10 rfl (lv_at hl 0 rfl) ?_
    refine lv_iload_n hx hb d_M_clear_11 rfl (lv_at hl 2 rfl) ?_
    refine lv_iconst (v := nI 2) hx hb d_M_clear_12 (by decide) ?_
    refine ro_call (va_runV (As := [.int b, .int (nI 2)]) (rest := [.ref (ad 0)]) ⟨hx, hb, hml, hown, hts⟩ (m_is_n l dC dI ad cI cJ cd n tc ki ra po se bc bs op pr pe pm b (nI 2) hn hno) (cwV 2 hts (wAll_v kw_333 kw_335 ks_11 kw_2 kw_336) rfl rfl rfl (by decide +kernel) ⟨Nat.le_of_ble_eq_true rfl, Nat.le_of_ble_eq_true rfl⟩) (ro_preV bl_tt hK hP (ci := 1) (q0 := 0) rfl rfl (fun _ _ _ => trivial)) rfl rfl hl.1 rfl (lv_room (Nat.le_of_ble_eq_true rfl)) d_M_clear_13 ⟨Nat.le_of_ble_eq_true rfl, Nat.le_of_ble_eq_true rfl⟩) ?_
    refine W.eq (g2 := F0 m 16 ls [.int (nI 0), .ref (ad 0)]) rfl ?_
    refine lv_if_eq (tgt := 37) hx hb d_M_clear_16 (by decide) (fun c2 => ?_) (fun c2 => ?_)
    · refine lv_iconst (v := nI 0) hx hb d_M_clear_37 (by decide) ?_
      refine mu_calli (va_runV (As := [.int (nI 0)]) (rest := []) ⟨hx, hb, hml, hown, hts⟩ (m_goes_n l dC dI ad cI cJ cd n tc ki ra po se bc bs op pr pe pm _ ) (cwV 1 hts (wAll_v kw_338 kw_340 ks_12 kw_2 kw_341) rfl rfl rfl (by decide +kernel) ⟨Nat.le_of_ble_eq_true rfl, Nat.le_of_ble_eq_true rfl⟩) (mu_preV hK hP hD (ci := 1) (q0 := 0) rfl rfl) rfl rfl hl.1 rfl (lv_room (Nat.le_of_ble_eq_true rfl)) d_M_clear_38 ⟨Nat.le_of_ble_eq_true rfl, Nat.le_of_ble_eq_true rfl⟩) hD hS hA (fun r H locs hq hP hD hS => ?_)
      obtain rfl := hq
      have hP : va_P (dC, dI) vwCl (md_w ad cI cJ 1 n tc ki ra po se bc bs op pr pe pm) H := hP
      have hD : va_D A (md_w ad cI cJ 1 n tc ki ra po se bc bs op pr pe pm) := hD
      refine lv_if_ne (tgt := 46) hx hb d_M_clear_41 (by decide) (fun c3 => ?_) (fun c3 => ?_)
      · exact absurd rfl c3
      · refine lv_lconst (v := 0) hx hb d_M_clear_44 (by decide) ?_
        exact W.lret (v := 0) hx hb hr (fun t ht hW => ⟨⟨0, (), rfl, rfl, by rw [ht]; exact hP, va_K.moved hW.alike hK, hD⟩, hS.F ht⟩) hS.2.2 d_M_clear_45
    · exact absurd rfl c2
set_option maxHeartbeats 4000000 in
set_option maxRecDepth 100000 in
theorem m_clear_tx (l : Launch) (dC : Nat → ClassId) (dI : Nat → Nat → Nat) (ad : Nat → Nat) (cI cJ : ClassId) (cd n tc : Nat) (ki ra : Nat → Int32) (po se : Nat → Int64) (bc : Nat → Int32) (bs op : Nat → Int64) (pr pe : Nat → Int32) (pm : Nat → Int64) (sz : Nat) (i j : Nat) (x : Int64) (h0i : 0 < i) (h0j : 0 < j) (hji : i < n) (hjj : j < n) (hn : n ≤ 15) (hki : ki i = nI 1) (hkj : ki j = nI 2) (hno : ¬ (¬ x < 1 ∧ ¬ 1000000000000 < x)) : Met l y_M_clear (.code y_M_clear b_M_clear 11 (some .long) :: wAll) ({ frames := 1, cells := 0, slots := 0, locals := 22 } : Room) (mu_P [.ref (ad 0), .int (nI i), .int (nI j), .long x] (dC, dI) vwCl [(cI, .int), (cJ, .long)] (md_w ad cI cJ cd n tc ki ra po se bc bs op pr pe pm) sz) (va_Ql (fun (z : Int64) (_ : Unit) => z = 0) (mu_B (dC, dI) vwCl [(cI, .int), (cJ, .long)] (va_A (md_w ad cI cJ cd n tc ki ra po se bc bs op pr pe pm) sz) (md_w ad cI cJ 1 n tc ki ra po se bc bs op pr pe pm)) (va_A (md_w ad cI cJ cd n tc ki ra po se bc bs op pr pe pm) sz)) 0 0 (va_A (md_w ad cI cJ cd n tc ki ra po se bc bs op pr pe pm) sz) := by
  refine Met.ofW (cc := b_M_clear) (maxL := 11) (ret := (some .long)) (by decide) rfl ?_
  intro p e s m args below meth c s₁ B hml hv
  obtain ⟨rfl, hsz, hP, hK, hD0⟩ := hv
  have hx := B.exec
  have hb := B.bytes
  have hr := B.returns
  have hts0 := atoms_spec (ws := (.code y_M_clear b_M_clear 11 (some .long) :: wAll)) B.pre
  have hts := hts_all hts0
  have hown : s.vm.findClass "ClearingBooksModel" = some m.cls := findClass_of_methodNamed B.named
  have hlocks := B.notSynchronized
  subst hsz
  have hD := hD0.self (sz := s.heap.size)
  generalize hAe : va_A (md_w ad cI cJ cd n tc ki ra po se bc bs op pr pe pm) s.heap.size = A at hD ⊢
  have hA : ∀ q : Nat, s.heap.size ≤ q → A q := fun q h => by rw [← hAe]; exact Or.inr h
  have hS : va_S A s.heap s.heap [] := va_S.rf
  have hl := lv_entry ([.ref (ad 0), .int (nI i), .int (nI j), .long x]) (n := 11) (Nat.le_of_ble_eq_true rfl)
  rw [lg_entry_eq]
  generalize (lg_sl ([.ref (ad 0), .int (nI i), .int (nI j), .long x]) ++ List.replicate (11 - (lg_sl ([.ref (ad 0), .int (nI i), .int (nI j), .long x])).length) Slot.unset).toArray = ls at hl ⊢
  have hl : lv_has ls 11 [(0, .ref (ad 0)), (1, .int (nI i)), (2, .int (nI j)), (3, .long x)] := hl
  refine lv_aload_n hx hb d_M_clear_0 rfl (lv_at hl 0 rfl) ?_
  refine lv_aload_n hx hb d_M_clear_1 rfl (lv_at hl 0 rfl) ?_
  refine lv_iload_n hx hb d_M_clear_2 rfl (lv_at hl 1 rfl) ?_
  refine lv_iconst (v := nI 1) hx hb d_M_clear_3 (by decide) ?_
  refine ro_call (va_runV (As := [.int (nI i), .int (nI 1)]) (rest := [.ref (ad 0)]) ⟨hx, hb, hml, hown, hts⟩ (m_is_y l dC dI ad cI cJ cd n tc ki ra po se bc bs op pr pe pm i (nI 1) h0i hji hn hki) (cwV 2 hts (wAll_v kw_333 kw_335 ks_11 kw_2 kw_336) rfl rfl rfl (by decide +kernel) ⟨Nat.le_of_ble_eq_true rfl, Nat.le_of_ble_eq_true rfl⟩) (ro_preV bl_tt hK hP (ci := 1) (q0 := 0) rfl rfl (fun _ _ _ => trivial)) rfl rfl hl.1 rfl (lv_room (Nat.le_of_ble_eq_true rfl)) d_M_clear_4 ⟨Nat.le_of_ble_eq_true rfl, Nat.le_of_ble_eq_true rfl⟩) ?_
  refine W.eq (g2 := F0 m 7 ls [.int (nI 1), .ref (ad 0)]) rfl ?_
  refine lv_if_eq (tgt := 37) hx hb d_M_clear_7 (by decide) (fun c1 => ?_) (fun c1 => ?_)
  · exact absurd c1 (by decide)
  · refine lv_aload_n hx hb d_M_clear_10 rfl (lv_at hl 0 rfl) ?_
    refine lv_iload_n hx hb d_M_clear_11 rfl (lv_at hl 2 rfl) ?_
    refine lv_iconst (v := nI 2) hx hb d_M_clear_12 (by decide) ?_
    refine ro_call (va_runV (As := [.int (nI j), .int (nI 2)]) (rest := [.ref (ad 0)]) ⟨hx, hb, hml, hown, hts⟩ (m_is_y l dC dI ad cI cJ cd n tc ki ra po se bc bs op pr pe pm j (nI 2) h0j hjj hn hkj) (cwV 2 hts (wAll_v kw_333 kw_335 ks_11 kw_2 kw_336) rfl rfl rfl (by decide +kernel) ⟨Nat.le_of_ble_eq_true rfl, Nat.le_of_ble_eq_true rfl⟩) (ro_preV bl_tt hK hP (ci := 1) (q0 := 0) rfl rfl (fun _ _ _ => trivial)) rfl rfl hl.1 rfl (lv_room (Nat.le_of_ble_eq_true rfl)) d_M_clear_13 ⟨Nat.le_of_ble_eq_true rfl, Nat.le_of_ble_eq_true rfl⟩) ?_
    refine W.eq (g2 := F0 m 16 ls [.int (nI 1), .ref (ad 0)]) rfl ?_
    refine lv_if_eq (tgt := 37) hx hb d_M_clear_16 (by decide) (fun c2 => ?_) (fun c2 => ?_)
    · exact absurd c2 (by decide)
    · refine lv_lload_n hx hb d_M_clear_19 rfl (lv_at hl 3 rfl) ?_
      refine lv_lconst (v := 1) hx hb d_M_clear_20 (by decide) ?_
      refine W.lcmp hx hb d_M_clear_21 ?_
      refine lv_if_lt (tgt := 37) hx hb d_M_clear_22 (by decide) (fun c3 => ?_) (fun c3 => ?_)
      · replace c3 := (lg_cmp_lt _ _).mp c3
        refine lv_iconst (v := nI 0) hx hb d_M_clear_37 (by decide) ?_
        refine mu_calli (va_runV (As := [.int (nI 0)]) (rest := []) ⟨hx, hb, hml, hown, hts⟩ (m_goes_n l dC dI ad cI cJ cd n tc ki ra po se bc bs op pr pe pm _ ) (cwV 1 hts (wAll_v kw_338 kw_340 ks_12 kw_2 kw_341) rfl rfl rfl (by decide +kernel) ⟨Nat.le_of_ble_eq_true rfl, Nat.le_of_ble_eq_true rfl⟩) (mu_preV hK hP hD (ci := 1) (q0 := 0) rfl rfl) rfl rfl hl.1 rfl (lv_room (Nat.le_of_ble_eq_true rfl)) d_M_clear_38 ⟨Nat.le_of_ble_eq_true rfl, Nat.le_of_ble_eq_true rfl⟩) hD hS hA (fun r H locs hq hP hD hS => ?_)
        obtain rfl := hq
        have hP : va_P (dC, dI) vwCl (md_w ad cI cJ 1 n tc ki ra po se bc bs op pr pe pm) H := hP
        have hD : va_D A (md_w ad cI cJ 1 n tc ki ra po se bc bs op pr pe pm) := hD
        refine lv_if_ne (tgt := 46) hx hb d_M_clear_41 (by decide) (fun c4 => ?_) (fun c4 => ?_)
        · exact absurd rfl c4
        · refine lv_lconst (v := 0) hx hb d_M_clear_44 (by decide) ?_
          exact W.lret (v := 0) hx hb hr (fun t ht hW => ⟨⟨0, (), rfl, rfl, by rw [ht]; exact hP, va_K.moved hW.alike hK, hD⟩, hS.F ht⟩) hS.2.2 d_M_clear_45
      · replace c3 := mt (lg_cmp_lt _ _).mpr c3
        refine lv_lload_n hx hb d_M_clear_25 rfl (lv_at hl 3 rfl) ?_
        refine lv_ldc2 (v := 1000000000000) hx hb hown (hts _ kw_337) d_M_clear_26 ?_
        refine W.lcmp hx hb d_M_clear_29 ?_
        refine lv_if_gt (tgt := 37) hx hb d_M_clear_30 (by decide) (fun c5 => ?_) (fun c5 => ?_)
        · replace c5 := (lg_cmp_gt _ _).mp c5
          refine lv_iconst (v := nI 0) hx hb d_M_clear_37 (by decide) ?_
          refine mu_calli (va_runV (As := [.int (nI 0)]) (rest := []) ⟨hx, hb, hml, hown, hts⟩ (m_goes_n l dC dI ad cI cJ cd n tc ki ra po se bc bs op pr pe pm _ ) (cwV 1 hts (wAll_v kw_338 kw_340 ks_12 kw_2 kw_341) rfl rfl rfl (by decide +kernel) ⟨Nat.le_of_ble_eq_true rfl, Nat.le_of_ble_eq_true rfl⟩) (mu_preV hK hP hD (ci := 1) (q0 := 0) rfl rfl) rfl rfl hl.1 rfl (lv_room (Nat.le_of_ble_eq_true rfl)) d_M_clear_38 ⟨Nat.le_of_ble_eq_true rfl, Nat.le_of_ble_eq_true rfl⟩) hD hS hA (fun r H locs hq hP hD hS => ?_)
          obtain rfl := hq
          have hP : va_P (dC, dI) vwCl (md_w ad cI cJ 1 n tc ki ra po se bc bs op pr pe pm) H := hP
          have hD : va_D A (md_w ad cI cJ 1 n tc ki ra po se bc bs op pr pe pm) := hD
          refine lv_if_ne (tgt := 46) hx hb d_M_clear_41 (by decide) (fun c6 => ?_) (fun c6 => ?_)
          · exact absurd rfl c6
          · refine lv_lconst (v := 0) hx hb d_M_clear_44 (by decide) ?_
            exact W.lret (v := 0) hx hb hr (fun t ht hW => ⟨⟨0, (), rfl, rfl, by rw [ht]; exact hP, va_K.moved hW.alike hK, hD⟩, hS.F ht⟩) hS.2.2 d_M_clear_45
        · replace c5 := mt (lg_cmp_gt _ _).mpr c5
          exact absurd ⟨c3, c5⟩ hno
end
section
set_option maxHeartbeats 4000000 in
set_option maxRecDepth 100000 in
theorem m_back_y (l : Launch) (dC : Nat → ClassId) (dI : Nat → Nat → Nat) (ad : Nat → Nat) (cI cJ : ClassId) (cd n tc : Nat) (ki ra : Nat → Int32) (po se : Nat → Int64) (bc : Nat → Int32) (bs op : Nat → Int64) (pr pe : Nat → Int32) (pm : Nat → Int64) (sz : Nat) (i j : Nat) (x : Int64) (h0i : 0 < i) (h0j : 0 < j) (hji : i < n) (hjj : j < n) (hn : n ≤ 15) (hki : ki i = nI 1) (hkj : ki j = nI 2) (h1 : ¬ x < (-1000000000000)) (h2 : ¬ 1000000000000 < x) : Met l y_M_back (.code y_M_back b_M_back 5 (some .long) :: wAll) ({ frames := 1, cells := 0, slots := 0, locals := 22 } : Room) (mu_P [.ref (ad 0), .int (nI i), .int (nI j), .long x] (dC, dI) vwCl [(cI, .int), (cJ, .long)] (md_w ad cI cJ cd n tc ki ra po se bc bs op pr pe pm) sz) (va_Ql (fun (z : Int64) (_ : Unit) => z = po_bk po i j x i) (mu_B (dC, dI) vwCl [(cI, .int), (cJ, .long)] (va_A (md_w ad cI cJ cd n tc ki ra po se bc bs op pr pe pm) sz) (md_w ad cI cJ 0 n tc ki ra (po_bk po i j x) se bc bs op pr pe pm)) (va_A (md_w ad cI cJ cd n tc ki ra po se bc bs op pr pe pm) sz)) 0 0 (va_A (md_w ad cI cJ cd n tc ki ra po se bc bs op pr pe pm) sz) := by
  refine Met.ofW (cc := b_M_back) (maxL := 5) (ret := (some .long)) (by decide) rfl ?_
  intro p e s m args below meth c s₁ B hml hv
  obtain ⟨rfl, hsz, hP, hK, hD0⟩ := hv
  have hx := B.exec
  have hb := B.bytes
  have hr := B.returns
  have hts0 := atoms_spec (ws := (.code y_M_back b_M_back 5 (some .long) :: wAll)) B.pre
  have hts := hts_all hts0
  have hown : s.vm.findClass "ClearingBooksModel" = some m.cls := findClass_of_methodNamed B.named
  have hlocks := B.notSynchronized
  subst hsz
  have hD := hD0.self (sz := s.heap.size)
  generalize hAe : va_A (md_w ad cI cJ cd n tc ki ra po se bc bs op pr pe pm) s.heap.size = A at hD ⊢
  have hA : ∀ q : Nat, s.heap.size ≤ q → A q := fun q h => by rw [← hAe]; exact Or.inr h
  have hS : va_S A s.heap s.heap [] := va_S.rf
  have hl := lv_entry ([.ref (ad 0), .int (nI i), .int (nI j), .long x]) (n := 5) (Nat.le_of_ble_eq_true rfl)
  rw [lg_entry_eq]
  generalize (lg_sl ([.ref (ad 0), .int (nI i), .int (nI j), .long x]) ++ List.replicate (5 - (lg_sl ([.ref (ad 0), .int (nI i), .int (nI j), .long x])).length) Slot.unset).toArray = ls at hl ⊢
  have hl : lv_has ls 5 [(0, .ref (ad 0)), (1, .int (nI i)), (2, .int (nI j)), (3, .long x)] := hl
  refine lv_aload_n hx hb d_M_back_0 rfl (lv_at hl 0 rfl) ?_
  refine lv_aload_n hx hb d_M_back_1 rfl (lv_at hl 0 rfl) ?_
  refine lv_iload_n hx hb d_M_back_2 rfl (lv_at hl 1 rfl) ?_
  refine lv_iconst (v := nI 1) hx hb d_M_back_3 (by decide) ?_
  refine ro_call (va_runV (As := [.int (nI i), .int (nI 1)]) (rest := [.ref (ad 0)]) ⟨hx, hb, hml, hown, hts⟩ (m_is_y l dC dI ad cI cJ cd n tc ki ra po se bc bs op pr pe pm i (nI 1) h0i hji hn hki) (cwV 2 hts (wAll_v kw_333 kw_335 ks_11 kw_2 kw_336) rfl rfl rfl (by decide +kernel) ⟨Nat.le_of_ble_eq_true rfl, Nat.le_of_ble_eq_true rfl⟩) (ro_preV bl_tt hK hP (ci := 1) (q0 := 0) rfl rfl (fun _ _ _ => trivial)) rfl rfl hl.1 rfl (lv_room (Nat.le_of_ble_eq_true rfl)) d_M_back_4 ⟨Nat.le_of_ble_eq_true rfl, Nat.le_of_ble_eq_true rfl⟩) ?_
  refine W.eq (g2 := F0 m 7 ls [.int (nI 1), .ref (ad 0)]) rfl ?_
  refine lv_if_eq (tgt := 39) hx hb d_M_back_7 (by decide) (fun c1 => ?_) (fun c1 => ?_)
  · exact absurd c1 (by decide)
  · refine lv_aload_n hx hb d_M_back_10 rfl (lv_at hl 0 rfl) ?_
    refine lv_iload_n hx hb d_M_back_11 rfl (lv_at hl 2 rfl) ?_
    refine lv_iconst (v := nI 2) hx hb d_M_back_12 (by decide) ?_
    refine ro_call (va_runV (As := [.int (nI j), .int (nI 2)]) (rest := [.ref (ad 0)]) ⟨hx, hb, hml, hown, hts⟩ (m_is_y l dC dI ad cI cJ cd n tc ki ra po se bc bs op pr pe pm j (nI 2) h0j hjj hn hkj) (cwV 2 hts (wAll_v kw_333 kw_335 ks_11 kw_2 kw_336) rfl rfl rfl (by decide +kernel) ⟨Nat.le_of_ble_eq_true rfl, Nat.le_of_ble_eq_true rfl⟩) (ro_preV bl_tt hK hP (ci := 1) (q0 := 0) rfl rfl (fun _ _ _ => trivial)) rfl rfl hl.1 rfl (lv_room (Nat.le_of_ble_eq_true rfl)) d_M_back_13 ⟨Nat.le_of_ble_eq_true rfl, Nat.le_of_ble_eq_true rfl⟩) ?_
    refine W.eq (g2 := F0 m 16 ls [.int (nI 1), .ref (ad 0)]) rfl ?_
    refine lv_if_eq (tgt := 39) hx hb d_M_back_16 (by decide) (fun c2 => ?_) (fun c2 => ?_)
    · exact absurd c2 (by decide)
    · refine lv_lload_n hx hb d_M_back_19 rfl (lv_at hl 3 rfl) ?_
      refine lv_ldc2 (v := (-1000000000000)) hx hb hown (hts _ kw_347) d_M_back_20 ?_
      refine W.lcmp hx hb d_M_back_23 ?_
      refine lv_if_lt (tgt := 39) hx hb d_M_back_24 (by decide) (fun c3 => ?_) (fun c3 => ?_)
      · replace c3 := (lg_cmp_lt _ _).mp c3
        exact absurd c3 h1
      · replace c3 := mt (lg_cmp_lt _ _).mpr c3
        refine lv_lload_n hx hb d_M_back_27 rfl (lv_at hl 3 rfl) ?_
        refine lv_ldc2 (v := 1000000000000) hx hb hown (hts _ kw_337) d_M_back_28 ?_
        refine W.lcmp hx hb d_M_back_31 ?_
        refine lv_if_gt (tgt := 39) hx hb d_M_back_32 (by decide) (fun c4 => ?_) (fun c4 => ?_)
        · replace c4 := (lg_cmp_gt _ _).mp c4
          exact absurd c4 h2
        · replace c4 := mt (lg_cmp_gt _ _).mpr c4
          refine lv_iconst (v := nI 1) hx hb d_M_back_35 (by decide) ?_
          refine lv_goto (tgt := 40) hx hb d_M_back_36 (by decide) ?_
          refine mu_calli (va_runV (As := [.int (nI 1)]) (rest := []) ⟨hx, hb, hml, hown, hts⟩ (m_goes_y l dC dI ad cI cJ cd n tc ki ra po se bc bs op pr pe pm _ ) (cwV 1 hts (wAll_v kw_338 kw_340 ks_12 kw_2 kw_341) rfl rfl rfl (by decide +kernel) ⟨Nat.le_of_ble_eq_true rfl, Nat.le_of_ble_eq_true rfl⟩) (mu_preV hK hP hD (ci := 1) (q0 := 0) rfl rfl) rfl rfl hl.1 rfl (lv_room (Nat.le_of_ble_eq_true rfl)) d_M_back_40 ⟨Nat.le_of_ble_eq_true rfl, Nat.le_of_ble_eq_true rfl⟩) hD hS hA (fun r H locs hq hP hD hS => ?_)
          obtain rfl := hq
          have hP : va_P (dC, dI) vwCl (md_w ad cI cJ 0 n tc ki ra po se bc bs op pr pe pm) H := hP
          have hD : va_D A (md_w ad cI cJ 0 n tc ki ra po se bc bs op pr pe pm) := hD
          refine lv_if_ne (tgt := 48) hx hb d_M_back_43 (by decide) (fun c5 => ?_) (fun c5 => ?_)
          · refine lv_aload_n hx hb d_M_back_48 rfl (lv_at hl 0 rfl) ?_
            refine va_get (D := (dC, dI)) (ci := 1) (v := .ref (ad 3)) (C := "ClearingBooksModel") (T := T_M) (N := 13) hx hb hts wi_M hown hK hP 0 rfl rfl 4 (by decide) (hts _ kw_277) (fun _ h9 => h9) rfl d_M_back_49 ?_
            refine lv_iload_n hx hb d_M_back_52 rfl (lv_at hl 1 rfl) ?_
            refine lv_dup2_11 hx hb d_M_back_53 rfl rfl ?_
            refine xa_laload (f := po) hx hb hK hP 3 1 rfl rfl (j := i) (by omega) (by decide) d_M_back_54 ?_
            refine lv_lload_n hx hb d_M_back_55 rfl (lv_at hl 3 rfl) ?_
            refine lv_lsub hx hb d_M_back_56 ?_
            refine xa_lastore (f := po) (x := (po i) - x) hx hb hK hP hD hS 3 1 rfl rfl (j := i) (by omega) (by decide) d_M_back_57 (fun H locs hP hD hS => ?_)
            have hP : va_P (dC, dI) vwCl (md_w ad cI cJ 0 n tc ki ra (vp_updL po i ((po i) - x)) se bc bs op pr pe pm) H := hP
            have hD : va_D A (md_w ad cI cJ 0 n tc ki ra (vp_updL po i ((po i) - x)) se bc bs op pr pe pm) := hD
            refine lv_aload_n hx hb d_M_back_58 rfl (lv_at hl 0 rfl) ?_
            refine va_get (D := (dC, dI)) (ci := 1) (v := .ref (ad 3)) (C := "ClearingBooksModel") (T := T_M) (N := 13) hx hb hts wi_M hown hK hP 0 rfl rfl 4 (by decide) (hts _ kw_277) (fun _ h9 => h9) rfl d_M_back_59 ?_
            refine lv_iload_n hx hb d_M_back_62 rfl (lv_at hl 2 rfl) ?_
            refine lv_dup2_11 hx hb d_M_back_63 rfl rfl ?_
            refine xa_laload (f := vp_updL po i ((po i) - x)) hx hb hK hP 3 1 rfl rfl (j := j) (by omega) (by decide) d_M_back_64 ?_
            refine lv_lload_n hx hb d_M_back_65 rfl (lv_at hl 3 rfl) ?_
            refine lv_ladd hx hb d_M_back_66 ?_
            refine xa_lastore (f := vp_updL po i ((po i) - x)) (x := ((vp_updL po i ((po i) - x)) j) + x) hx hb hK hP hD hS 3 1 rfl rfl (j := j) (by omega) (by decide) d_M_back_67 (fun H locs hP hD hS => ?_)
            have hP : va_P (dC, dI) vwCl (md_w ad cI cJ 0 n tc ki ra (vp_updL (vp_updL po i ((po i) - x)) j (((vp_updL po i ((po i) - x)) j) + x)) se bc bs op pr pe pm) H := hP
            have hD : va_D A (md_w ad cI cJ 0 n tc ki ra (vp_updL (vp_updL po i ((po i) - x)) j (((vp_updL po i ((po i) - x)) j) + x)) se bc bs op pr pe pm) := hD
            refine lv_aload_n hx hb d_M_back_68 rfl (lv_at hl 0 rfl) ?_
            refine va_get (D := (dC, dI)) (ci := 1) (v := .ref (ad 3)) (C := "ClearingBooksModel") (T := T_M) (N := 13) hx hb hts wi_M hown hK hP 0 rfl rfl 4 (by decide) (hts _ kw_277) (fun _ h9 => h9) rfl d_M_back_69 ?_
            refine lv_iload_n hx hb d_M_back_72 rfl (lv_at hl 1 rfl) ?_
            refine xa_laload (f := vp_updL (vp_updL po i ((po i) - x)) j (((vp_updL po i ((po i) - x)) j) + x)) hx hb hK hP 3 1 rfl rfl (j := i) (by omega) (by decide) d_M_back_73 ?_
            exact W.lret (v := (vp_updL (vp_updL po i ((po i) - x)) j (((vp_updL po i ((po i) - x)) j) + x)) i) hx hb hr (fun t ht hW => ⟨⟨(vp_updL (vp_updL po i ((po i) - x)) j (((vp_updL po i ((po i) - x)) j) + x)) i, (), rfl, rfl, by rw [ht]; exact hP, va_K.moved hW.alike hK, hD⟩, hS.F ht⟩) hS.2.2 d_M_back_74
          · exact absurd c5 (by decide)
set_option maxHeartbeats 4000000 in
set_option maxRecDepth 100000 in
theorem m_back_ta (l : Launch) (dC : Nat → ClassId) (dI : Nat → Nat → Nat) (ad : Nat → Nat) (cI cJ : ClassId) (cd n tc : Nat) (ki ra : Nat → Int32) (po se : Nat → Int64) (bc : Nat → Int32) (bs op : Nat → Int64) (pr pe : Nat → Int32) (pm : Nat → Int64) (sz : Nat) (a b : Int32) (x : Int64) (hn : n ≤ 15) (hno : ¬ is_k n ki a (nI 1)) : Met l y_M_back (.code y_M_back b_M_back 5 (some .long) :: wAll) ({ frames := 1, cells := 0, slots := 0, locals := 22 } : Room) (mu_P [.ref (ad 0), .int a, .int b, .long x] (dC, dI) vwCl [(cI, .int), (cJ, .long)] (md_w ad cI cJ cd n tc ki ra po se bc bs op pr pe pm) sz) (va_Ql (fun (z : Int64) (_ : Unit) => z = 0) (mu_B (dC, dI) vwCl [(cI, .int), (cJ, .long)] (va_A (md_w ad cI cJ cd n tc ki ra po se bc bs op pr pe pm) sz) (md_w ad cI cJ 1 n tc ki ra po se bc bs op pr pe pm)) (va_A (md_w ad cI cJ cd n tc ki ra po se bc bs op pr pe pm) sz)) 0 0 (va_A (md_w ad cI cJ cd n tc ki ra po se bc bs op pr pe pm) sz) := by
  refine Met.ofW (cc := b_M_back) (maxL := 5) (ret := (some .long)) (by decide) rfl ?_
  intro p e s m args below meth c s₁ B hml hv
  obtain ⟨rfl, hsz, hP, hK, hD0⟩ := hv
  have hx := B.exec
  have hb := B.bytes
  have hr := B.returns
  have hts0 := atoms_spec (ws := (.code y_M_back b_M_back 5 (some .long) :: wAll)) B.pre
  have hts := hts_all hts0
  have hown : s.vm.findClass "ClearingBooksModel" = some m.cls := findClass_of_methodNamed B.named
  have hlocks := B.notSynchronized
  subst hsz
  have hD := hD0.self (sz := s.heap.size)
  generalize hAe : va_A (md_w ad cI cJ cd n tc ki ra po se bc bs op pr pe pm) s.heap.size = A at hD ⊢
  have hA : ∀ q : Nat, s.heap.size ≤ q → A q := fun q h => by rw [← hAe]; exact Or.inr h
  have hS : va_S A s.heap s.heap [] := va_S.rf
  have hl := lv_entry ([.ref (ad 0), .int a, .int b, .long x]) (n := 5) (Nat.le_of_ble_eq_true rfl)
  rw [lg_entry_eq]
  generalize (lg_sl ([.ref (ad 0), .int a, .int b, .long x]) ++ List.replicate (5 - (lg_sl ([.ref (ad 0), .int a, .int b, .long x])).length) Slot.unset).toArray = ls at hl ⊢
  have hl : lv_has ls 5 [(0, .ref (ad 0)), (1, .int a), (2, .int b), (3, .long x)] := hl
  refine lv_aload_n hx hb d_M_back_0 rfl (lv_at hl 0 rfl) ?_
  refine lv_aload_n hx hb d_M_back_1 rfl (lv_at hl 0 rfl) ?_
  refine lv_iload_n hx hb d_M_back_2 rfl (lv_at hl 1 rfl) ?_
  refine lv_iconst (v := nI 1) hx hb d_M_back_3 (by decide) ?_
  refine ro_call (va_runV (As := [.int a, .int (nI 1)]) (rest := [.ref (ad 0)]) ⟨hx, hb, hml, hown, hts⟩ (m_is_n l dC dI ad cI cJ cd n tc ki ra po se bc bs op pr pe pm a (nI 1) hn hno) (cwV 2 hts (wAll_v kw_333 kw_335 ks_11 kw_2 kw_336) rfl rfl rfl (by decide +kernel) ⟨Nat.le_of_ble_eq_true rfl, Nat.le_of_ble_eq_true rfl⟩) (ro_preV bl_tt hK hP (ci := 1) (q0 := 0) rfl rfl (fun _ _ _ => trivial)) rfl rfl hl.1 rfl (lv_room (Nat.le_of_ble_eq_true rfl)) d_M_back_4 ⟨Nat.le_of_ble_eq_true rfl, Nat.le_of_ble_eq_true rfl⟩) ?_
  refine W.eq (g2 := F0 m 7 ls [.int (nI 0), .ref (ad 0)]) rfl ?_
  refine lv_if_eq (tgt := 39) hx hb d_M_back_7 (by decide) (fun c1 => ?_) (fun c1 => ?_)
  · refine lv_iconst (v := nI 0) hx hb d_M_back_39 (by decide) ?_
    refine mu_calli (va_runV (As := [.int (nI 0)]) (rest := []) ⟨hx, hb, hml, hown, hts⟩ (m_goes_n l dC dI ad cI cJ cd n tc ki ra po se bc bs op pr pe pm _ ) (cwV 1 hts (wAll_v kw_338 kw_340 ks_12 kw_2 kw_341) rfl rfl rfl (by decide +kernel) ⟨Nat.le_of_ble_eq_true rfl, Nat.le_of_ble_eq_true rfl⟩) (mu_preV hK hP hD (ci := 1) (q0 := 0) rfl rfl) rfl rfl hl.1 rfl (lv_room (Nat.le_of_ble_eq_true rfl)) d_M_back_40 ⟨Nat.le_of_ble_eq_true rfl, Nat.le_of_ble_eq_true rfl⟩) hD hS hA (fun r H locs hq hP hD hS => ?_)
    obtain rfl := hq
    have hP : va_P (dC, dI) vwCl (md_w ad cI cJ 1 n tc ki ra po se bc bs op pr pe pm) H := hP
    have hD : va_D A (md_w ad cI cJ 1 n tc ki ra po se bc bs op pr pe pm) := hD
    refine lv_if_ne (tgt := 48) hx hb d_M_back_43 (by decide) (fun c2 => ?_) (fun c2 => ?_)
    · exact absurd rfl c2
    · refine lv_lconst (v := 0) hx hb d_M_back_46 (by decide) ?_
      exact W.lret (v := 0) hx hb hr (fun t ht hW => ⟨⟨0, (), rfl, rfl, by rw [ht]; exact hP, va_K.moved hW.alike hK, hD⟩, hS.F ht⟩) hS.2.2 d_M_back_47
  · exact absurd rfl c1
set_option maxHeartbeats 4000000 in
set_option maxRecDepth 100000 in
theorem m_back_tb (l : Launch) (dC : Nat → ClassId) (dI : Nat → Nat → Nat) (ad : Nat → Nat) (cI cJ : ClassId) (cd n tc : Nat) (ki ra : Nat → Int32) (po se : Nat → Int64) (bc : Nat → Int32) (bs op : Nat → Int64) (pr pe : Nat → Int32) (pm : Nat → Int64) (sz : Nat) (i : Nat) (b : Int32) (x : Int64) (h0i : 0 < i) (hji : i < n) (hn : n ≤ 15) (hki : ki i = nI 1) (hno : ¬ is_k n ki b (nI 2)) : Met l y_M_back (.code y_M_back b_M_back 5 (some .long) :: wAll) ({ frames := 1, cells := 0, slots := 0, locals := 22 } : Room) (mu_P [.ref (ad 0), .int (nI i), .int b, .long x] (dC, dI) vwCl [(cI, .int), (cJ, .long)] (md_w ad cI cJ cd n tc ki ra po se bc bs op pr pe pm) sz) (va_Ql (fun (z : Int64) (_ : Unit) => z = 0) (mu_B (dC, dI) vwCl [(cI, .int), (cJ, .long)] (va_A (md_w ad cI cJ cd n tc ki ra po se bc bs op pr pe pm) sz) (md_w ad cI cJ 1 n tc ki ra po se bc bs op pr pe pm)) (va_A (md_w ad cI cJ cd n tc ki ra po se bc bs op pr pe pm) sz)) 0 0 (va_A (md_w ad cI cJ cd n tc ki ra po se bc bs op pr pe pm) sz) := by
  refine Met.ofW (cc := b_M_back) (maxL := 5) (ret := (some .long)) (by decide) rfl ?_
  intro p e s m args below meth c s₁ B hml hv
  obtain ⟨rfl, hsz, hP, hK, hD0⟩ := hv
  have hx := B.exec
  have hb := B.bytes
  have hr := B.returns
  have hts0 := atoms_spec (ws := (.code y_M_back b_M_back 5 (some .long) :: wAll)) B.pre
  have hts := hts_all hts0
  have hown : s.vm.findClass "ClearingBooksModel" = some m.cls := findClass_of_methodNamed B.named
  have hlocks := B.notSynchronized
  subst hsz
  have hD := hD0.self (sz := s.heap.size)
  generalize hAe : va_A (md_w ad cI cJ cd n tc ki ra po se bc bs op pr pe pm) s.heap.size = A at hD ⊢
  have hA : ∀ q : Nat, s.heap.size ≤ q → A q := fun q h => by rw [← hAe]; exact Or.inr h
  have hS : va_S A s.heap s.heap [] := va_S.rf
  have hl := lv_entry ([.ref (ad 0), .int (nI i), .int b, .long x]) (n := 5) (Nat.le_of_ble_eq_true rfl)
  rw [lg_entry_eq]
  generalize (lg_sl ([.ref (ad 0), .int (nI i), .int b, .long x]) ++ List.replicate (5 - (lg_sl ([.ref (ad 0), .int (nI i), .int b, .long x])).length) Slot.unset).toArray = ls at hl ⊢
  have hl : lv_has ls 5 [(0, .ref (ad 0)), (1, .int (nI i)), (2, .int b), (3, .long x)] := hl
  refine lv_aload_n hx hb d_M_back_0 rfl (lv_at hl 0 rfl) ?_
  refine lv_aload_n hx hb d_M_back_1 rfl (lv_at hl 0 rfl) ?_
  refine lv_iload_n hx hb d_M_back_2 rfl (lv_at hl 1 rfl) ?_
  refine lv_iconst (v := nI 1) hx hb d_M_back_3 (by decide) ?_
  refine ro_call (va_runV (As := [.int (nI i), .int (nI 1)]) (rest := [.ref (ad 0)]) ⟨hx, hb, hml, hown, hts⟩ (m_is_y l dC dI ad cI cJ cd n tc ki ra po se bc bs op pr pe pm i (nI 1) h0i hji hn hki) (cwV 2 hts (wAll_v kw_333 kw_335 ks_11 kw_2 kw_336) rfl rfl rfl (by decide +kernel) ⟨Nat.le_of_ble_eq_true rfl, Nat.le_of_ble_eq_true rfl⟩) (ro_preV bl_tt hK hP (ci := 1) (q0 := 0) rfl rfl (fun _ _ _ => trivial)) rfl rfl hl.1 rfl (lv_room (Nat.le_of_ble_eq_true rfl)) d_M_back_4 ⟨Nat.le_of_ble_eq_true rfl, Nat.le_of_ble_eq_true rfl⟩) ?_
  refine W.eq (g2 := F0 m 7 ls [.int (nI 1), .ref (ad 0)]) rfl ?_
  refine lv_if_eq (tgt := 39) hx hb d_M_back_7 (by decide) (fun c1 => ?_) (fun c1 => ?_)
  · exact absurd c1 (by decide)
  · refine lv_aload_n hx hb d_M_back_10 rfl (lv_at hl 0 rfl) ?_
    refine lv_iload_n hx hb d_M_back_11 rfl (lv_at hl 2 rfl) ?_
    refine lv_iconst (v := nI 2) hx hb d_M_back_12 (by decide) ?_
    refine ro_call (va_runV (As := [.int b, .int (nI 2)]) (rest := [.ref (ad 0)]) ⟨hx, hb, hml, hown, hts⟩ (m_is_n l dC dI ad cI cJ cd n tc ki ra po se bc bs op pr pe pm b (nI 2) hn hno) (cwV 2 hts (wAll_v kw_333 kw_335 ks_11 kw_2 kw_336) rfl rfl rfl (by decide +kernel) ⟨Nat.le_of_ble_eq_true rfl, Nat.le_of_ble_eq_true rfl⟩) (ro_preV bl_tt hK hP (ci := 1) (q0 := 0) rfl rfl (fun _ _ _ => trivial)) rfl rfl hl.1 rfl (lv_room (Nat.le_of_ble_eq_true rfl)) d_M_back_13 ⟨Nat.le_of_ble_eq_true rfl, Nat.le_of_ble_eq_true rfl⟩) ?_
    refine W.eq (g2 := F0 m 16 ls [.int (nI 0), .ref (ad 0)]) rfl ?_
    refine lv_if_eq (tgt := 39) hx hb d_M_back_16 (by decide) (fun c2 => ?_) (fun c2 => ?_)
    · refine lv_iconst (v := nI 0) hx hb d_M_back_39 (by decide) ?_
      refine mu_calli (va_runV (As := [.int (nI 0)]) (rest := []) ⟨hx, hb, hml, hown, hts⟩ (m_goes_n l dC dI ad cI cJ cd n tc ki ra po se bc bs op pr pe pm _ ) (cwV 1 hts (wAll_v kw_338 kw_340 ks_12 kw_2 kw_341) rfl rfl rfl (by decide +kernel) ⟨Nat.le_of_ble_eq_true rfl, Nat.le_of_ble_eq_true rfl⟩) (mu_preV hK hP hD (ci := 1) (q0 := 0) rfl rfl) rfl rfl hl.1 rfl (lv_room (Nat.le_of_ble_eq_true rfl)) d_M_back_40 ⟨Nat.le_of_ble_eq_true rfl, Nat.le_of_ble_eq_true rfl⟩) hD hS hA (fun r H locs hq hP hD hS => ?_)
      obtain rfl := hq
      have hP : va_P (dC, dI) vwCl (md_w ad cI cJ 1 n tc ki ra po se bc bs op pr pe pm) H := hP
      have hD : va_D A (md_w ad cI cJ 1 n tc ki ra po se bc bs op pr pe pm) := hD
      refine lv_if_ne (tgt := 48) hx hb d_M_back_43 (by decide) (fun c3 => ?_) (fun c3 => ?_)
      · exact absurd rfl c3
      · refine lv_lconst (v := 0) hx hb d_M_back_46 (by decide) ?_
        exact W.lret (v := 0) hx hb hr (fun t ht hW => ⟨⟨0, (), rfl, rfl, by rw [ht]; exact hP, va_K.moved hW.alike hK, hD⟩, hS.F ht⟩) hS.2.2 d_M_back_47
    · exact absurd rfl c2
set_option maxHeartbeats 4000000 in
set_option maxRecDepth 100000 in
theorem m_back_tx (l : Launch) (dC : Nat → ClassId) (dI : Nat → Nat → Nat) (ad : Nat → Nat) (cI cJ : ClassId) (cd n tc : Nat) (ki ra : Nat → Int32) (po se : Nat → Int64) (bc : Nat → Int32) (bs op : Nat → Int64) (pr pe : Nat → Int32) (pm : Nat → Int64) (sz : Nat) (i j : Nat) (x : Int64) (h0i : 0 < i) (h0j : 0 < j) (hji : i < n) (hjj : j < n) (hn : n ≤ 15) (hki : ki i = nI 1) (hkj : ki j = nI 2) (hno : ¬ (¬ x < (-1000000000000) ∧ ¬ 1000000000000 < x)) : Met l y_M_back (.code y_M_back b_M_back 5 (some .long) :: wAll) ({ frames := 1, cells := 0, slots := 0, locals := 22 } : Room) (mu_P [.ref (ad 0), .int (nI i), .int (nI j), .long x] (dC, dI) vwCl [(cI, .int), (cJ, .long)] (md_w ad cI cJ cd n tc ki ra po se bc bs op pr pe pm) sz) (va_Ql (fun (z : Int64) (_ : Unit) => z = 0) (mu_B (dC, dI) vwCl [(cI, .int), (cJ, .long)] (va_A (md_w ad cI cJ cd n tc ki ra po se bc bs op pr pe pm) sz) (md_w ad cI cJ 1 n tc ki ra po se bc bs op pr pe pm)) (va_A (md_w ad cI cJ cd n tc ki ra po se bc bs op pr pe pm) sz)) 0 0 (va_A (md_w ad cI cJ cd n tc ki ra po se bc bs op pr pe pm) sz) := by
  refine Met.ofW (cc := b_M_back) (maxL := 5) (ret := (some .long)) (by decide) rfl ?_
  intro p e s m args below meth c s₁ B hml hv
  obtain ⟨rfl, hsz, hP, hK, hD0⟩ := hv
  have hx := B.exec
  have hb := B.bytes
  have hr := B.returns
  have hts0 := atoms_spec (ws := (.code y_M_back b_M_back 5 (some .long) :: wAll)) B.pre
  have hts := hts_all hts0
  have hown : s.vm.findClass "ClearingBooksModel" = some m.cls := findClass_of_methodNamed B.named
  have hlocks := B.notSynchronized
  subst hsz
  have hD := hD0.self (sz := s.heap.size)
  generalize hAe : va_A (md_w ad cI cJ cd n tc ki ra po se bc bs op pr pe pm) s.heap.size = A at hD ⊢
  have hA : ∀ q : Nat, s.heap.size ≤ q → A q := fun q h => by rw [← hAe]; exact Or.inr h
  have hS : va_S A s.heap s.heap [] := va_S.rf
  have hl := lv_entry ([.ref (ad 0), .int (nI i), .int (nI j), .long x]) (n := 5) (Nat.le_of_ble_eq_true rfl)
  rw [lg_entry_eq]
  generalize (lg_sl ([.ref (ad 0), .int (nI i), .int (nI j), .long x]) ++ List.replicate (5 - (lg_sl ([.ref (ad 0), .int (nI i), .int (nI j), .long x])).length) Slot.unset).toArray = ls at hl ⊢
  have hl : lv_has ls 5 [(0, .ref (ad 0)), (1, .int (nI i)), (2, .int (nI j)), (3, .long x)] := hl
  refine lv_aload_n hx hb d_M_back_0 rfl (lv_at hl 0 rfl) ?_
  refine lv_aload_n hx hb d_M_back_1 rfl (lv_at hl 0 rfl) ?_
  refine lv_iload_n hx hb d_M_back_2 rfl (lv_at hl 1 rfl) ?_
  refine lv_iconst (v := nI 1) hx hb d_M_back_3 (by decide) ?_
  refine ro_call (va_runV (As := [.int (nI i), .int (nI 1)]) (rest := [.ref (ad 0)]) ⟨hx, hb, hml, hown, hts⟩ (m_is_y l dC dI ad cI cJ cd n tc ki ra po se bc bs op pr pe pm i (nI 1) h0i hji hn hki) (cwV 2 hts (wAll_v kw_333 kw_335 ks_11 kw_2 kw_336) rfl rfl rfl (by decide +kernel) ⟨Nat.le_of_ble_eq_true rfl, Nat.le_of_ble_eq_true rfl⟩) (ro_preV bl_tt hK hP (ci := 1) (q0 := 0) rfl rfl (fun _ _ _ => trivial)) rfl rfl hl.1 rfl (lv_room (Nat.le_of_ble_eq_true rfl)) d_M_back_4 ⟨Nat.le_of_ble_eq_true rfl, Nat.le_of_ble_eq_true rfl⟩) ?_
  refine W.eq (g2 := F0 m 7 ls [.int (nI 1), .ref (ad 0)]) rfl ?_
  refine lv_if_eq (tgt := 39) hx hb d_M_back_7 (by decide) (fun c1 => ?_) (fun c1 => ?_)
  · exact absurd c1 (by decide)
  · refine lv_aload_n hx hb d_M_back_10 rfl (lv_at hl 0 rfl) ?_
    refine lv_iload_n hx hb d_M_back_11 rfl (lv_at hl 2 rfl) ?_
    refine lv_iconst (v := nI 2) hx hb d_M_back_12 (by decide) ?_
    refine ro_call (va_runV (As := [.int (nI j), .int (nI 2)]) (rest := [.ref (ad 0)]) ⟨hx, hb, hml, hown, hts⟩ (m_is_y l dC dI ad cI cJ cd n tc ki ra po se bc bs op pr pe pm j (nI 2) h0j hjj hn hkj) (cwV 2 hts (wAll_v kw_333 kw_335 ks_11 kw_2 kw_336) rfl rfl rfl (by decide +kernel) ⟨Nat.le_of_ble_eq_true rfl, Nat.le_of_ble_eq_true rfl⟩) (ro_preV bl_tt hK hP (ci := 1) (q0 := 0) rfl rfl (fun _ _ _ => trivial)) rfl rfl hl.1 rfl (lv_room (Nat.le_of_ble_eq_true rfl)) d_M_back_13 ⟨Nat.le_of_ble_eq_true rfl, Nat.le_of_ble_eq_true rfl⟩) ?_
    refine W.eq (g2 := F0 m 16 ls [.int (nI 1), .ref (ad 0)]) rfl ?_
    refine lv_if_eq (tgt := 39) hx hb d_M_back_16 (by decide) (fun c2 => ?_) (fun c2 => ?_)
    · exact absurd c2 (by decide)
    · refine lv_lload_n hx hb d_M_back_19 rfl (lv_at hl 3 rfl) ?_
      refine lv_ldc2 (v := (-1000000000000)) hx hb hown (hts _ kw_347) d_M_back_20 ?_
      refine W.lcmp hx hb d_M_back_23 ?_
      refine lv_if_lt (tgt := 39) hx hb d_M_back_24 (by decide) (fun c3 => ?_) (fun c3 => ?_)
      · replace c3 := (lg_cmp_lt _ _).mp c3
        refine lv_iconst (v := nI 0) hx hb d_M_back_39 (by decide) ?_
        refine mu_calli (va_runV (As := [.int (nI 0)]) (rest := []) ⟨hx, hb, hml, hown, hts⟩ (m_goes_n l dC dI ad cI cJ cd n tc ki ra po se bc bs op pr pe pm _ ) (cwV 1 hts (wAll_v kw_338 kw_340 ks_12 kw_2 kw_341) rfl rfl rfl (by decide +kernel) ⟨Nat.le_of_ble_eq_true rfl, Nat.le_of_ble_eq_true rfl⟩) (mu_preV hK hP hD (ci := 1) (q0 := 0) rfl rfl) rfl rfl hl.1 rfl (lv_room (Nat.le_of_ble_eq_true rfl)) d_M_back_40 ⟨Nat.le_of_ble_eq_true rfl, Nat.le_of_ble_eq_true rfl⟩) hD hS hA (fun r H locs hq hP hD hS => ?_)
        obtain rfl := hq
        have hP : va_P (dC, dI) vwCl (md_w ad cI cJ 1 n tc ki ra po se bc bs op pr pe pm) H := hP
        have hD : va_D A (md_w ad cI cJ 1 n tc ki ra po se bc bs op pr pe pm) := hD
        refine lv_if_ne (tgt := 48) hx hb d_M_back_43 (by decide) (fun c4 => ?_) (fun c4 => ?_)
        · exact absurd rfl c4
        · refine lv_lconst (v := 0) hx hb d_M_back_46 (by decide) ?_
          exact W.lret (v := 0) hx hb hr (fun t ht hW => ⟨⟨0, (), rfl, rfl, by rw [ht]; exact hP, va_K.moved hW.alike hK, hD⟩, hS.F ht⟩) hS.2.2 d_M_back_47
      · replace c3 := mt (lg_cmp_lt _ _).mpr c3
        refine lv_lload_n hx hb d_M_back_27 rfl (lv_at hl 3 rfl) ?_
        refine lv_ldc2 (v := 1000000000000) hx hb hown (hts _ kw_337) d_M_back_28 ?_
        refine W.lcmp hx hb d_M_back_31 ?_
        refine lv_if_gt (tgt := 39) hx hb d_M_back_32 (by decide) (fun c5 => ?_) (fun c5 => ?_)
        · replace c5 := (lg_cmp_gt _ _).mp c5
          refine lv_iconst (v := nI 0) hx hb d_M_back_39 (by decide) ?_
          refine mu_calli (va_runV (As := [.int (nI 0)]) (rest := []) ⟨hx, hb, hml, hown, hts⟩ (m_goes_n l dC dI ad cI cJ cd n tc ki ra po se bc bs op pr pe pm _ ) (cwV 1 hts (wAll_v kw_338 kw_340 ks_12 kw_2 kw_341) rfl rfl rfl (by decide +kernel) ⟨Nat.le_of_ble_eq_true rfl, Nat.le_of_ble_eq_true rfl⟩) (mu_preV hK hP hD (ci := 1) (q0 := 0) rfl rfl) rfl rfl hl.1 rfl (lv_room (Nat.le_of_ble_eq_true rfl)) d_M_back_40 ⟨Nat.le_of_ble_eq_true rfl, Nat.le_of_ble_eq_true rfl⟩) hD hS hA (fun r H locs hq hP hD hS => ?_)
          obtain rfl := hq
          have hP : va_P (dC, dI) vwCl (md_w ad cI cJ 1 n tc ki ra po se bc bs op pr pe pm) H := hP
          have hD : va_D A (md_w ad cI cJ 1 n tc ki ra po se bc bs op pr pe pm) := hD
          refine lv_if_ne (tgt := 48) hx hb d_M_back_43 (by decide) (fun c6 => ?_) (fun c6 => ?_)
          · exact absurd rfl c6
          · refine lv_lconst (v := 0) hx hb d_M_back_46 (by decide) ?_
            exact W.lret (v := 0) hx hb hr (fun t ht hW => ⟨⟨0, (), rfl, rfl, by rw [ht]; exact hP, va_K.moved hW.alike hK, hD⟩, hS.F ht⟩) hS.2.2 d_M_back_47
        · replace c5 := mt (lg_cmp_gt _ _).mpr c5
          exact absurd ⟨c3, c5⟩ hno
set_option maxHeartbeats 4000000 in
set_option maxRecDepth 100000 in
theorem m_reconcile_y (l : Launch) (dC : Nat → ClassId) (dI : Nat → Nat → Nat) (ad : Nat → Nat) (cI cJ : ClassId) (cd n tc : Nat) (ki ra : Nat → Int32) (po se : Nat → Int64) (bc : Nat → Int32) (bs op : Nat → Int64) (pr pe : Nat → Int32) (pm : Nat → Int64) (sz : Nat) (i : Nat) (k : Int32) (x : Int64) (h0i : 0 < i) (hji : i < n) (hn : n ≤ 15) (hki : ki i = nI 1) (hy : bc i = k ∧ bs i = x) : Met l y_M_reconcile (.code y_M_reconcile b_M_reconcile 5 (some .boolean) :: wAll) ({ frames := 1, cells := 0, slots := 0, locals := 22 } : Room) (mu_P [.ref (ad 0), .int (nI i), .int k, .long x] (dC, dI) vwCl [(cI, .int), (cJ, .long)] (md_w ad cI cJ cd n tc ki ra po se bc bs op pr pe pm) sz) (va_Qi (fun (z : Int32) (_ : Unit) => z = nI 1) (mu_B (dC, dI) vwCl [(cI, .int), (cJ, .long)] (va_A (md_w ad cI cJ cd n tc ki ra po se bc bs op pr pe pm) sz) (md_w ad cI cJ 0 n tc ki ra po se (upd bc i (nI 0)) (vp_updL bs i 0) op pr pe pm)) (va_A (md_w ad cI cJ cd n tc ki ra po se bc bs op pr pe pm) sz)) 0 0 (va_A (md_w ad cI cJ cd n tc ki ra po se bc bs op pr pe pm) sz) := by
  refine Met.ofW (cc := b_M_reconcile) (maxL := 5) (ret := (some .boolean)) (by decide) rfl ?_
  intro p e s m args below meth c s₁ B hml hv
  obtain ⟨rfl, hsz, hP, hK, hD0⟩ := hv
  have hx := B.exec
  have hb := B.bytes
  have hr := B.returns
  have hts0 := atoms_spec (ws := (.code y_M_reconcile b_M_reconcile 5 (some .boolean) :: wAll)) B.pre
  have hts := hts_all hts0
  have hown : s.vm.findClass "ClearingBooksModel" = some m.cls := findClass_of_methodNamed B.named
  have hlocks := B.notSynchronized
  subst hsz
  have hD := hD0.self (sz := s.heap.size)
  generalize hAe : va_A (md_w ad cI cJ cd n tc ki ra po se bc bs op pr pe pm) s.heap.size = A at hD ⊢
  have hA : ∀ q : Nat, s.heap.size ≤ q → A q := fun q h => by rw [← hAe]; exact Or.inr h
  have hS : va_S A s.heap s.heap [] := va_S.rf
  have hl := lv_entry ([.ref (ad 0), .int (nI i), .int k, .long x]) (n := 5) (Nat.le_of_ble_eq_true rfl)
  rw [lg_entry_eq]
  generalize (lg_sl ([.ref (ad 0), .int (nI i), .int k, .long x]) ++ List.replicate (5 - (lg_sl ([.ref (ad 0), .int (nI i), .int k, .long x])).length) Slot.unset).toArray = ls at hl ⊢
  have hl : lv_has ls 5 [(0, .ref (ad 0)), (1, .int (nI i)), (2, .int k), (3, .long x)] := hl
  refine lv_aload_n hx hb d_M_reconcile_0 rfl (lv_at hl 0 rfl) ?_
  refine lv_aload_n hx hb d_M_reconcile_1 rfl (lv_at hl 0 rfl) ?_
  refine lv_iload_n hx hb d_M_reconcile_2 rfl (lv_at hl 1 rfl) ?_
  refine lv_iconst (v := nI 1) hx hb d_M_reconcile_3 (by decide) ?_
  refine ro_call (va_runV (As := [.int (nI i), .int (nI 1)]) (rest := [.ref (ad 0)]) ⟨hx, hb, hml, hown, hts⟩ (m_is_y l dC dI ad cI cJ cd n tc ki ra po se bc bs op pr pe pm i (nI 1) h0i hji hn hki) (cwV 2 hts (wAll_v kw_333 kw_335 ks_11 kw_2 kw_336) rfl rfl rfl (by decide +kernel) ⟨Nat.le_of_ble_eq_true rfl, Nat.le_of_ble_eq_true rfl⟩) (ro_preV bl_tt hK hP (ci := 1) (q0 := 0) rfl rfl (fun _ _ _ => trivial)) rfl rfl hl.1 rfl (lv_room (Nat.le_of_ble_eq_true rfl)) d_M_reconcile_4 ⟨Nat.le_of_ble_eq_true rfl, Nat.le_of_ble_eq_true rfl⟩) ?_
  refine W.eq (g2 := F0 m 7 ls [.int (nI 1), .ref (ad 0)]) rfl ?_
  refine mu_calli (va_runV (As := [.int (nI 1)]) (rest := []) ⟨hx, hb, hml, hown, hts⟩ (m_goes_y l dC dI ad cI cJ cd n tc ki ra po se bc bs op pr pe pm _ ) (cwV 1 hts (wAll_v kw_338 kw_340 ks_12 kw_2 kw_341) rfl rfl rfl (by decide +kernel) ⟨Nat.le_of_ble_eq_true rfl, Nat.le_of_ble_eq_true rfl⟩) (mu_preV hK hP hD (ci := 1) (q0 := 0) rfl rfl) rfl rfl hl.1 rfl (lv_room (Nat.le_of_ble_eq_true rfl)) d_M_reconcile_7 ⟨Nat.le_of_ble_eq_true rfl, Nat.le_of_ble_eq_true rfl⟩) hD hS hA (fun r H locs hq hP hD hS => ?_)
  obtain rfl := hq
  have hP : va_P (dC, dI) vwCl (md_w ad cI cJ 0 n tc ki ra po se bc bs op pr pe pm) H := hP
  have hD : va_D A (md_w ad cI cJ 0 n tc ki ra po se bc bs op pr pe pm) := hD
  refine lv_if_eq (tgt := 34) hx hb d_M_reconcile_10 (by decide) (fun c1 => ?_) (fun c1 => ?_)
  · exact absurd c1 (by decide)
  · refine lv_aload_n hx hb d_M_reconcile_13 rfl (lv_at hl 0 rfl) ?_
    refine va_get (D := (dC, dI)) (ci := 1) (v := .ref (ad 5)) (C := "ClearingBooksModel") (T := T_M) (N := 13) hx hb hts wi_M hown hK hP 0 rfl rfl 6 (by decide) (hts _ kw_279) (fun _ h9 => h9) rfl d_M_reconcile_14 ?_
    refine lv_iload_n hx hb d_M_reconcile_17 rfl (lv_at hl 1 rfl) ?_
    refine xa_iaload (f := bc) hx hb hK hP 5 0 rfl rfl (j := i) (by omega) (by decide) d_M_reconcile_18 ?_
    refine lv_iload_n hx hb d_M_reconcile_19 rfl (lv_at hl 2 rfl) ?_
    refine lv_icmp_ne (tgt := 34) hx hb d_M_reconcile_20 (by decide) (fun c2 => ?_) (fun c2 => ?_)
    · exact absurd hy.1 c2
    · refine lv_aload_n hx hb d_M_reconcile_23 rfl (lv_at hl 0 rfl) ?_
      refine va_get (D := (dC, dI)) (ci := 1) (v := .ref (ad 6)) (C := "ClearingBooksModel") (T := T_M) (N := 13) hx hb hts wi_M hown hK hP 0 rfl rfl 7 (by decide) (hts _ kw_280) (fun _ h9 => h9) rfl d_M_reconcile_24 ?_
      refine lv_iload_n hx hb d_M_reconcile_27 rfl (lv_at hl 1 rfl) ?_
      refine xa_laload (f := bs) hx hb hK hP 6 1 rfl rfl (j := i) (by omega) (by decide) d_M_reconcile_28 ?_
      refine lv_lload_n hx hb d_M_reconcile_29 rfl (lv_at hl 3 rfl) ?_
      refine W.lcmp hx hb d_M_reconcile_30 ?_
      refine lv_if_eq (tgt := 36) hx hb d_M_reconcile_31 (by decide) (fun c3 => ?_) (fun c3 => ?_)
      · replace c3 := (lg_cmp_eq _ _).mp c3
        refine lv_aload_n hx hb d_M_reconcile_36 rfl (lv_at hl 0 rfl) ?_
        refine va_get (D := (dC, dI)) (ci := 1) (v := .ref (ad 5)) (C := "ClearingBooksModel") (T := T_M) (N := 13) hx hb hts wi_M hown hK hP 0 rfl rfl 6 (by decide) (hts _ kw_279) (fun _ h9 => h9) rfl d_M_reconcile_37 ?_
        refine lv_iload_n hx hb d_M_reconcile_40 rfl (lv_at hl 1 rfl) ?_
        refine lv_iconst (v := nI 0) hx hb d_M_reconcile_41 (by decide) ?_
        refine xa_iastore (f := bc) (x := nI 0) hx hb hK hP hD hS 5 0 rfl rfl (j := i) (by omega) (by decide) d_M_reconcile_42 (fun H locs hP hD hS => ?_)
        have hP : va_P (dC, dI) vwCl (md_w ad cI cJ 0 n tc ki ra po se (upd bc i (nI 0)) bs op pr pe pm) H := hP
        have hD : va_D A (md_w ad cI cJ 0 n tc ki ra po se (upd bc i (nI 0)) bs op pr pe pm) := hD
        refine lv_aload_n hx hb d_M_reconcile_43 rfl (lv_at hl 0 rfl) ?_
        refine va_get (D := (dC, dI)) (ci := 1) (v := .ref (ad 6)) (C := "ClearingBooksModel") (T := T_M) (N := 13) hx hb hts wi_M hown hK hP 0 rfl rfl 7 (by decide) (hts _ kw_280) (fun _ h9 => h9) rfl d_M_reconcile_44 ?_
        refine lv_iload_n hx hb d_M_reconcile_47 rfl (lv_at hl 1 rfl) ?_
        refine lv_lconst (v := 0) hx hb d_M_reconcile_48 (by decide) ?_
        refine xa_lastore (f := bs) (x := 0) hx hb hK hP hD hS 6 1 rfl rfl (j := i) (by omega) (by decide) d_M_reconcile_49 (fun H locs hP hD hS => ?_)
        have hP : va_P (dC, dI) vwCl (md_w ad cI cJ 0 n tc ki ra po se (upd bc i (nI 0)) (vp_updL bs i 0) op pr pe pm) H := hP
        have hD : va_D A (md_w ad cI cJ 0 n tc ki ra po se (upd bc i (nI 0)) (vp_updL bs i 0) op pr pe pm) := hD
        refine lv_iconst (v := nI 1) hx hb d_M_reconcile_50 (by decide) ?_
        exact W.zret (v := nI 1) hx hb hr rfl (fun t ht hW => ⟨⟨nI 1, (), rfl, rfl, by rw [ht]; exact hP, va_K.moved hW.alike hK, hD⟩, hS.F ht⟩) hS.2.2 d_M_reconcile_51
      · replace c3 := mt (lg_cmp_eq _ _).mpr c3
        exact absurd hy.2 c3
set_option maxHeartbeats 4000000 in
set_option maxRecDepth 100000 in
theorem m_reconcile_n (l : Launch) (dC : Nat → ClassId) (dI : Nat → Nat → Nat) (ad : Nat → Nat) (cI cJ : ClassId) (cd n tc : Nat) (ki ra : Nat → Int32) (po se : Nat → Int64) (bc : Nat → Int32) (bs op : Nat → Int64) (pr pe : Nat → Int32) (pm : Nat → Int64) (sz : Nat) (i : Nat) (k : Int32) (x : Int64) (h0i : 0 < i) (hji : i < n) (hn : n ≤ 15) (hki : ki i = nI 1) (hy : ¬ (bc i = k ∧ bs i = x)) : Met l y_M_reconcile (.code y_M_reconcile b_M_reconcile 5 (some .boolean) :: wAll) ({ frames := 1, cells := 0, slots := 0, locals := 22 } : Room) (mu_P [.ref (ad 0), .int (nI i), .int k, .long x] (dC, dI) vwCl [(cI, .int), (cJ, .long)] (md_w ad cI cJ cd n tc ki ra po se bc bs op pr pe pm) sz) (va_Qi (fun (z : Int32) (_ : Unit) => z = nI 0) (mu_B (dC, dI) vwCl [(cI, .int), (cJ, .long)] (va_A (md_w ad cI cJ cd n tc ki ra po se bc bs op pr pe pm) sz) (md_w ad cI cJ 0 n tc ki ra po se bc bs op pr pe pm)) (va_A (md_w ad cI cJ cd n tc ki ra po se bc bs op pr pe pm) sz)) 0 0 (va_A (md_w ad cI cJ cd n tc ki ra po se bc bs op pr pe pm) sz) := by
  refine Met.ofW (cc := b_M_reconcile) (maxL := 5) (ret := (some .boolean)) (by decide) rfl ?_
  intro p e s m args below meth c s₁ B hml hv
  obtain ⟨rfl, hsz, hP, hK, hD0⟩ := hv
  have hx := B.exec
  have hb := B.bytes
  have hr := B.returns
  have hts0 := atoms_spec (ws := (.code y_M_reconcile b_M_reconcile 5 (some .boolean) :: wAll)) B.pre
  have hts := hts_all hts0
  have hown : s.vm.findClass "ClearingBooksModel" = some m.cls := findClass_of_methodNamed B.named
  have hlocks := B.notSynchronized
  subst hsz
  have hD := hD0.self (sz := s.heap.size)
  generalize hAe : va_A (md_w ad cI cJ cd n tc ki ra po se bc bs op pr pe pm) s.heap.size = A at hD ⊢
  have hA : ∀ q : Nat, s.heap.size ≤ q → A q := fun q h => by rw [← hAe]; exact Or.inr h
  have hS : va_S A s.heap s.heap [] := va_S.rf
  have hl := lv_entry ([.ref (ad 0), .int (nI i), .int k, .long x]) (n := 5) (Nat.le_of_ble_eq_true rfl)
  rw [lg_entry_eq]
  generalize (lg_sl ([.ref (ad 0), .int (nI i), .int k, .long x]) ++ List.replicate (5 - (lg_sl ([.ref (ad 0), .int (nI i), .int k, .long x])).length) Slot.unset).toArray = ls at hl ⊢
  have hl : lv_has ls 5 [(0, .ref (ad 0)), (1, .int (nI i)), (2, .int k), (3, .long x)] := hl
  refine lv_aload_n hx hb d_M_reconcile_0 rfl (lv_at hl 0 rfl) ?_
  refine lv_aload_n hx hb d_M_reconcile_1 rfl (lv_at hl 0 rfl) ?_
  refine lv_iload_n hx hb d_M_reconcile_2 rfl (lv_at hl 1 rfl) ?_
  refine lv_iconst (v := nI 1) hx hb d_M_reconcile_3 (by decide) ?_
  refine ro_call (va_runV (As := [.int (nI i), .int (nI 1)]) (rest := [.ref (ad 0)]) ⟨hx, hb, hml, hown, hts⟩ (m_is_y l dC dI ad cI cJ cd n tc ki ra po se bc bs op pr pe pm i (nI 1) h0i hji hn hki) (cwV 2 hts (wAll_v kw_333 kw_335 ks_11 kw_2 kw_336) rfl rfl rfl (by decide +kernel) ⟨Nat.le_of_ble_eq_true rfl, Nat.le_of_ble_eq_true rfl⟩) (ro_preV bl_tt hK hP (ci := 1) (q0 := 0) rfl rfl (fun _ _ _ => trivial)) rfl rfl hl.1 rfl (lv_room (Nat.le_of_ble_eq_true rfl)) d_M_reconcile_4 ⟨Nat.le_of_ble_eq_true rfl, Nat.le_of_ble_eq_true rfl⟩) ?_
  refine W.eq (g2 := F0 m 7 ls [.int (nI 1), .ref (ad 0)]) rfl ?_
  refine mu_calli (va_runV (As := [.int (nI 1)]) (rest := []) ⟨hx, hb, hml, hown, hts⟩ (m_goes_y l dC dI ad cI cJ cd n tc ki ra po se bc bs op pr pe pm _ ) (cwV 1 hts (wAll_v kw_338 kw_340 ks_12 kw_2 kw_341) rfl rfl rfl (by decide +kernel) ⟨Nat.le_of_ble_eq_true rfl, Nat.le_of_ble_eq_true rfl⟩) (mu_preV hK hP hD (ci := 1) (q0 := 0) rfl rfl) rfl rfl hl.1 rfl (lv_room (Nat.le_of_ble_eq_true rfl)) d_M_reconcile_7 ⟨Nat.le_of_ble_eq_true rfl, Nat.le_of_ble_eq_true rfl⟩) hD hS hA (fun r H locs hq hP hD hS => ?_)
  obtain rfl := hq
  have hP : va_P (dC, dI) vwCl (md_w ad cI cJ 0 n tc ki ra po se bc bs op pr pe pm) H := hP
  have hD : va_D A (md_w ad cI cJ 0 n tc ki ra po se bc bs op pr pe pm) := hD
  refine lv_if_eq (tgt := 34) hx hb d_M_reconcile_10 (by decide) (fun c1 => ?_) (fun c1 => ?_)
  · exact absurd c1 (by decide)
  · refine lv_aload_n hx hb d_M_reconcile_13 rfl (lv_at hl 0 rfl) ?_
    refine va_get (D := (dC, dI)) (ci := 1) (v := .ref (ad 5)) (C := "ClearingBooksModel") (T := T_M) (N := 13) hx hb hts wi_M hown hK hP 0 rfl rfl 6 (by decide) (hts _ kw_279) (fun _ h9 => h9) rfl d_M_reconcile_14 ?_
    refine lv_iload_n hx hb d_M_reconcile_17 rfl (lv_at hl 1 rfl) ?_
    refine xa_iaload (f := bc) hx hb hK hP 5 0 rfl rfl (j := i) (by omega) (by decide) d_M_reconcile_18 ?_
    refine lv_iload_n hx hb d_M_reconcile_19 rfl (lv_at hl 2 rfl) ?_
    refine lv_icmp_ne (tgt := 34) hx hb d_M_reconcile_20 (by decide) (fun c2 => ?_) (fun c2 => ?_)
    · refine lv_iconst (v := nI 0) hx hb d_M_reconcile_34 (by decide) ?_
      exact W.zret (v := nI 0) hx hb hr rfl (fun t ht hW => ⟨⟨nI 0, (), rfl, rfl, by rw [ht]; exact hP, va_K.moved hW.alike hK, hD⟩, hS.F ht⟩) hS.2.2 d_M_reconcile_35
    · refine lv_aload_n hx hb d_M_reconcile_23 rfl (lv_at hl 0 rfl) ?_
      refine va_get (D := (dC, dI)) (ci := 1) (v := .ref (ad 6)) (C := "ClearingBooksModel") (T := T_M) (N := 13) hx hb hts wi_M hown hK hP 0 rfl rfl 7 (by decide) (hts _ kw_280) (fun _ h9 => h9) rfl d_M_reconcile_24 ?_
      refine lv_iload_n hx hb d_M_reconcile_27 rfl (lv_at hl 1 rfl) ?_
      refine xa_laload (f := bs) hx hb hK hP 6 1 rfl rfl (j := i) (by omega) (by decide) d_M_reconcile_28 ?_
      refine lv_lload_n hx hb d_M_reconcile_29 rfl (lv_at hl 3 rfl) ?_
      refine W.lcmp hx hb d_M_reconcile_30 ?_
      refine lv_if_eq (tgt := 36) hx hb d_M_reconcile_31 (by decide) (fun c3 => ?_) (fun c3 => ?_)
      · replace c3 := (lg_cmp_eq _ _).mp c3
        exact absurd ⟨c2, c3⟩ hy
      · replace c3 := mt (lg_cmp_eq _ _).mpr c3
        refine lv_iconst (v := nI 0) hx hb d_M_reconcile_34 (by decide) ?_
        exact W.zret (v := nI 0) hx hb hr rfl (fun t ht hW => ⟨⟨nI 0, (), rfl, rfl, by rw [ht]; exact hP, va_K.moved hW.alike hK, hD⟩, hS.F ht⟩) hS.2.2 d_M_reconcile_35
set_option maxHeartbeats 4000000 in
set_option maxRecDepth 100000 in
theorem m_reconcile_t (l : Launch) (dC : Nat → ClassId) (dI : Nat → Nat → Nat) (ad : Nat → Nat) (cI cJ : ClassId) (cd n tc : Nat) (ki ra : Nat → Int32) (po se : Nat → Int64) (bc : Nat → Int32) (bs op : Nat → Int64) (pr pe : Nat → Int32) (pm : Nat → Int64) (sz : Nat) (a k : Int32) (x : Int64) (hn : n ≤ 15) (hno : ¬ is_k n ki a (nI 1)) : Met l y_M_reconcile (.code y_M_reconcile b_M_reconcile 5 (some .boolean) :: wAll) ({ frames := 1, cells := 0, slots := 0, locals := 22 } : Room) (mu_P [.ref (ad 0), .int a, .int k, .long x] (dC, dI) vwCl [(cI, .int), (cJ, .long)] (md_w ad cI cJ cd n tc ki ra po se bc bs op pr pe pm) sz) (va_Qi (fun (z : Int32) (_ : Unit) => z = nI 0) (mu_B (dC, dI) vwCl [(cI, .int), (cJ, .long)] (va_A (md_w ad cI cJ cd n tc ki ra po se bc bs op pr pe pm) sz) (md_w ad cI cJ 1 n tc ki ra po se bc bs op pr pe pm)) (va_A (md_w ad cI cJ cd n tc ki ra po se bc bs op pr pe pm) sz)) 0 0 (va_A (md_w ad cI cJ cd n tc ki ra po se bc bs op pr pe pm) sz) := by
  refine Met.ofW (cc := b_M_reconcile) (maxL := 5) (ret := (some .boolean)) (by decide) rfl ?_
  intro p e s m args below meth c s₁ B hml hv
  obtain ⟨rfl, hsz, hP, hK, hD0⟩ := hv
  have hx := B.exec
  have hb := B.bytes
  have hr := B.returns
  have hts0 := atoms_spec (ws := (.code y_M_reconcile b_M_reconcile 5 (some .boolean) :: wAll)) B.pre
  have hts := hts_all hts0
  have hown : s.vm.findClass "ClearingBooksModel" = some m.cls := findClass_of_methodNamed B.named
  have hlocks := B.notSynchronized
  subst hsz
  have hD := hD0.self (sz := s.heap.size)
  generalize hAe : va_A (md_w ad cI cJ cd n tc ki ra po se bc bs op pr pe pm) s.heap.size = A at hD ⊢
  have hA : ∀ q : Nat, s.heap.size ≤ q → A q := fun q h => by rw [← hAe]; exact Or.inr h
  have hS : va_S A s.heap s.heap [] := va_S.rf
  have hl := lv_entry ([.ref (ad 0), .int a, .int k, .long x]) (n := 5) (Nat.le_of_ble_eq_true rfl)
  rw [lg_entry_eq]
  generalize (lg_sl ([.ref (ad 0), .int a, .int k, .long x]) ++ List.replicate (5 - (lg_sl ([.ref (ad 0), .int a, .int k, .long x])).length) Slot.unset).toArray = ls at hl ⊢
  have hl : lv_has ls 5 [(0, .ref (ad 0)), (1, .int a), (2, .int k), (3, .long x)] := hl
  refine lv_aload_n hx hb d_M_reconcile_0 rfl (lv_at hl 0 rfl) ?_
  refine lv_aload_n hx hb d_M_reconcile_1 rfl (lv_at hl 0 rfl) ?_
  refine lv_iload_n hx hb d_M_reconcile_2 rfl (lv_at hl 1 rfl) ?_
  refine lv_iconst (v := nI 1) hx hb d_M_reconcile_3 (by decide) ?_
  refine ro_call (va_runV (As := [.int a, .int (nI 1)]) (rest := [.ref (ad 0)]) ⟨hx, hb, hml, hown, hts⟩ (m_is_n l dC dI ad cI cJ cd n tc ki ra po se bc bs op pr pe pm a (nI 1) hn hno) (cwV 2 hts (wAll_v kw_333 kw_335 ks_11 kw_2 kw_336) rfl rfl rfl (by decide +kernel) ⟨Nat.le_of_ble_eq_true rfl, Nat.le_of_ble_eq_true rfl⟩) (ro_preV bl_tt hK hP (ci := 1) (q0 := 0) rfl rfl (fun _ _ _ => trivial)) rfl rfl hl.1 rfl (lv_room (Nat.le_of_ble_eq_true rfl)) d_M_reconcile_4 ⟨Nat.le_of_ble_eq_true rfl, Nat.le_of_ble_eq_true rfl⟩) ?_
  refine W.eq (g2 := F0 m 7 ls [.int (nI 0), .ref (ad 0)]) rfl ?_
  refine mu_calli (va_runV (As := [.int (nI 0)]) (rest := []) ⟨hx, hb, hml, hown, hts⟩ (m_goes_n l dC dI ad cI cJ cd n tc ki ra po se bc bs op pr pe pm _ ) (cwV 1 hts (wAll_v kw_338 kw_340 ks_12 kw_2 kw_341) rfl rfl rfl (by decide +kernel) ⟨Nat.le_of_ble_eq_true rfl, Nat.le_of_ble_eq_true rfl⟩) (mu_preV hK hP hD (ci := 1) (q0 := 0) rfl rfl) rfl rfl hl.1 rfl (lv_room (Nat.le_of_ble_eq_true rfl)) d_M_reconcile_7 ⟨Nat.le_of_ble_eq_true rfl, Nat.le_of_ble_eq_true rfl⟩) hD hS hA (fun r H locs hq hP hD hS => ?_)
  obtain rfl := hq
  have hP : va_P (dC, dI) vwCl (md_w ad cI cJ 1 n tc ki ra po se bc bs op pr pe pm) H := hP
  have hD : va_D A (md_w ad cI cJ 1 n tc ki ra po se bc bs op pr pe pm) := hD
  refine lv_if_eq (tgt := 34) hx hb d_M_reconcile_10 (by decide) (fun c1 => ?_) (fun c1 => ?_)
  · refine lv_iconst (v := nI 0) hx hb d_M_reconcile_34 (by decide) ?_
    exact W.zret (v := nI 0) hx hb hr rfl (fun t ht hW => ⟨⟨nI 0, (), rfl, rfl, by rw [ht]; exact hP, va_K.moved hW.alike hK, hD⟩, hS.F ht⟩) hS.2.2 d_M_reconcile_35
  · exact absurd rfl c1
set_option maxHeartbeats 4000000 in
set_option maxRecDepth 100000 in
theorem m_batch_y0 (l : Launch) (dC : Nat → ClassId) (dI : Nat → Nat → Nat) (ad : Nat → Nat) (cI cJ : ClassId) (cd n tc : Nat) (ki ra : Nat → Int32) (po se : Nat → Int64) (bc : Nat → Int32) (bs op : Nat → Int64) (pr pe : Nat → Int32) (pm : Nat → Int64) (sz : Nat) (i : Nat) (h0i : 0 < i) (hji : i < n) (hn : n ≤ 15) (hki : ki i = nI 1) : Met l y_M_batch (.code y_M_batch b_M_batch 3 (some .long) :: wAll) ({ frames := 1, cells := 0, slots := 0, locals := 22 } : Room) (mu_P [.ref (ad 0), .int (nI i), .int (nI 0)] (dC, dI) vwCl [(cI, .int), (cJ, .long)] (md_w ad cI cJ cd n tc ki ra po se bc bs op pr pe pm) sz) (va_Ql (fun (z : Int64) (_ : Unit) => z = (bc i).toInt64) (mu_B (dC, dI) vwCl [(cI, .int), (cJ, .long)] (va_A (md_w ad cI cJ cd n tc ki ra po se bc bs op pr pe pm) sz) (md_w ad cI cJ 0 n tc ki ra po se bc bs op pr pe pm)) (va_A (md_w ad cI cJ cd n tc ki ra po se bc bs op pr pe pm) sz)) 0 0 (va_A (md_w ad cI cJ cd n tc ki ra po se bc bs op pr pe pm) sz) := by
  refine Met.ofW (cc := b_M_batch) (maxL := 3) (ret := (some .long)) (by decide) rfl ?_
  intro p e s m args below meth c s₁ B hml hv
  obtain ⟨rfl, hsz, hP, hK, hD0⟩ := hv
  have hx := B.exec
  have hb := B.bytes
  have hr := B.returns
  have hts0 := atoms_spec (ws := (.code y_M_batch b_M_batch 3 (some .long) :: wAll)) B.pre
  have hts := hts_all hts0
  have hown : s.vm.findClass "ClearingBooksModel" = some m.cls := findClass_of_methodNamed B.named
  have hlocks := B.notSynchronized
  subst hsz
  have hD := hD0.self (sz := s.heap.size)
  generalize hAe : va_A (md_w ad cI cJ cd n tc ki ra po se bc bs op pr pe pm) s.heap.size = A at hD ⊢
  have hA : ∀ q : Nat, s.heap.size ≤ q → A q := fun q h => by rw [← hAe]; exact Or.inr h
  have hS : va_S A s.heap s.heap [] := va_S.rf
  have hl := lv_entry ([.ref (ad 0), .int (nI i), .int (nI 0)]) (n := 3) (Nat.le_of_ble_eq_true rfl)
  rw [lg_entry_eq]
  generalize (lg_sl ([.ref (ad 0), .int (nI i), .int (nI 0)]) ++ List.replicate (3 - (lg_sl ([.ref (ad 0), .int (nI i), .int (nI 0)])).length) Slot.unset).toArray = ls at hl ⊢
  have hl : lv_has ls 3 [(0, .ref (ad 0)), (1, .int (nI i)), (2, .int (nI 0))] := hl
  refine lv_aload_n hx hb d_M_batch_0 rfl (lv_at hl 0 rfl) ?_
  refine lv_aload_n hx hb d_M_batch_1 rfl (lv_at hl 0 rfl) ?_
  refine lv_iload_n hx hb d_M_batch_2 rfl (lv_at hl 1 rfl) ?_
  refine lv_iconst (v := nI 1) hx hb d_M_batch_3 (by decide) ?_
  refine ro_call (va_runV (As := [.int (nI i), .int (nI 1)]) (rest := [.ref (ad 0)]) ⟨hx, hb, hml, hown, hts⟩ (m_is_y l dC dI ad cI cJ cd n tc ki ra po se bc bs op pr pe pm i (nI 1) h0i hji hn hki) (cwV 2 hts (wAll_v kw_333 kw_335 ks_11 kw_2 kw_336) rfl rfl rfl (by decide +kernel) ⟨Nat.le_of_ble_eq_true rfl, Nat.le_of_ble_eq_true rfl⟩) (ro_preV bl_tt hK hP (ci := 1) (q0 := 0) rfl rfl (fun _ _ _ => trivial)) rfl rfl hl.1 rfl (lv_room (Nat.le_of_ble_eq_true rfl)) d_M_batch_4 ⟨Nat.le_of_ble_eq_true rfl, Nat.le_of_ble_eq_true rfl⟩) ?_
  refine W.eq (g2 := F0 m 7 ls [.int (nI 1), .ref (ad 0)]) rfl ?_
  refine lv_if_eq (tgt := 23) hx hb d_M_batch_7 (by decide) (fun c1 => ?_) (fun c1 => ?_)
  · exact absurd c1 (by decide)
  · refine lv_iload_n hx hb d_M_batch_10 rfl (lv_at hl 2 rfl) ?_
    refine lv_if_eq (tgt := 19) hx hb d_M_batch_11 (by decide) (fun c2 => ?_) (fun c2 => ?_)
    · refine lv_iconst (v := nI 1) hx hb d_M_batch_19 (by decide) ?_
      refine lv_goto (tgt := 24) hx hb d_M_batch_20 (by decide) ?_
      refine mu_calli (va_runV (As := [.int (nI 1)]) (rest := []) ⟨hx, hb, hml, hown, hts⟩ (m_goes_y l dC dI ad cI cJ cd n tc ki ra po se bc bs op pr pe pm _ ) (cwV 1 hts (wAll_v kw_338 kw_340 ks_12 kw_2 kw_341) rfl rfl rfl (by decide +kernel) ⟨Nat.le_of_ble_eq_true rfl, Nat.le_of_ble_eq_true rfl⟩) (mu_preV hK hP hD (ci := 1) (q0 := 0) rfl rfl) rfl rfl hl.1 rfl (lv_room (Nat.le_of_ble_eq_true rfl)) d_M_batch_24 ⟨Nat.le_of_ble_eq_true rfl, Nat.le_of_ble_eq_true rfl⟩) hD hS hA (fun r H locs hq hP hD hS => ?_)
      obtain rfl := hq
      have hP : va_P (dC, dI) vwCl (md_w ad cI cJ 0 n tc ki ra po se bc bs op pr pe pm) H := hP
      have hD : va_D A (md_w ad cI cJ 0 n tc ki ra po se bc bs op pr pe pm) := hD
      refine lv_if_ne (tgt := 32) hx hb d_M_batch_27 (by decide) (fun c3 => ?_) (fun c3 => ?_)
      · refine lv_iload_n hx hb d_M_batch_32 rfl (lv_at hl 2 rfl) ?_
        refine lv_if_ne (tgt := 46) hx hb d_M_batch_33 (by decide) (fun c4 => ?_) (fun c4 => ?_)
        · exact absurd rfl c4
        · refine lv_aload_n hx hb d_M_batch_36 rfl (lv_at hl 0 rfl) ?_
          refine va_get (D := (dC, dI)) (ci := 1) (v := .ref (ad 5)) (C := "ClearingBooksModel") (T := T_M) (N := 13) hx hb hts wi_M hown hK hP 0 rfl rfl 6 (by decide) (hts _ kw_279) (fun _ h9 => h9) rfl d_M_batch_37 ?_
          refine lv_iload_n hx hb d_M_batch_40 rfl (lv_at hl 1 rfl) ?_
          refine xa_iaload (f := bc) hx hb hK hP 5 0 rfl rfl (j := i) (by omega) (by decide) d_M_batch_41 ?_
          refine lv_i2l (v := (bc i).toInt64) hx hb d_M_batch_42 rfl ?_
          refine lv_goto (tgt := 52) hx hb d_M_batch_43 (by decide) ?_
          exact W.lret (v := (bc i).toInt64) hx hb hr (fun t ht hW => ⟨⟨(bc i).toInt64, (), rfl, rfl, by rw [ht]; exact hP, va_K.moved hW.alike hK, hD⟩, hS.F ht⟩) hS.2.2 d_M_batch_52
      · exact absurd c3 (by decide)
    · exact absurd rfl c2
set_option maxHeartbeats 4000000 in
set_option maxRecDepth 100000 in
theorem m_batch_y1 (l : Launch) (dC : Nat → ClassId) (dI : Nat → Nat → Nat) (ad : Nat → Nat) (cI cJ : ClassId) (cd n tc : Nat) (ki ra : Nat → Int32) (po se : Nat → Int64) (bc : Nat → Int32) (bs op : Nat → Int64) (pr pe : Nat → Int32) (pm : Nat → Int64) (sz : Nat) (i : Nat) (h0i : 0 < i) (hji : i < n) (hn : n ≤ 15) (hki : ki i = nI 1) : Met l y_M_batch (.code y_M_batch b_M_batch 3 (some .long) :: wAll) ({ frames := 1, cells := 0, slots := 0, locals := 22 } : Room) (mu_P [.ref (ad 0), .int (nI i), .int (nI 1)] (dC, dI) vwCl [(cI, .int), (cJ, .long)] (md_w ad cI cJ cd n tc ki ra po se bc bs op pr pe pm) sz) (va_Ql (fun (z : Int64) (_ : Unit) => z = bs i) (mu_B (dC, dI) vwCl [(cI, .int), (cJ, .long)] (va_A (md_w ad cI cJ cd n tc ki ra po se bc bs op pr pe pm) sz) (md_w ad cI cJ 0 n tc ki ra po se bc bs op pr pe pm)) (va_A (md_w ad cI cJ cd n tc ki ra po se bc bs op pr pe pm) sz)) 0 0 (va_A (md_w ad cI cJ cd n tc ki ra po se bc bs op pr pe pm) sz) := by
  refine Met.ofW (cc := b_M_batch) (maxL := 3) (ret := (some .long)) (by decide) rfl ?_
  intro p e s m args below meth c s₁ B hml hv
  obtain ⟨rfl, hsz, hP, hK, hD0⟩ := hv
  have hx := B.exec
  have hb := B.bytes
  have hr := B.returns
  have hts0 := atoms_spec (ws := (.code y_M_batch b_M_batch 3 (some .long) :: wAll)) B.pre
  have hts := hts_all hts0
  have hown : s.vm.findClass "ClearingBooksModel" = some m.cls := findClass_of_methodNamed B.named
  have hlocks := B.notSynchronized
  subst hsz
  have hD := hD0.self (sz := s.heap.size)
  generalize hAe : va_A (md_w ad cI cJ cd n tc ki ra po se bc bs op pr pe pm) s.heap.size = A at hD ⊢
  have hA : ∀ q : Nat, s.heap.size ≤ q → A q := fun q h => by rw [← hAe]; exact Or.inr h
  have hS : va_S A s.heap s.heap [] := va_S.rf
  have hl := lv_entry ([.ref (ad 0), .int (nI i), .int (nI 1)]) (n := 3) (Nat.le_of_ble_eq_true rfl)
  rw [lg_entry_eq]
  generalize (lg_sl ([.ref (ad 0), .int (nI i), .int (nI 1)]) ++ List.replicate (3 - (lg_sl ([.ref (ad 0), .int (nI i), .int (nI 1)])).length) Slot.unset).toArray = ls at hl ⊢
  have hl : lv_has ls 3 [(0, .ref (ad 0)), (1, .int (nI i)), (2, .int (nI 1))] := hl
  refine lv_aload_n hx hb d_M_batch_0 rfl (lv_at hl 0 rfl) ?_
  refine lv_aload_n hx hb d_M_batch_1 rfl (lv_at hl 0 rfl) ?_
  refine lv_iload_n hx hb d_M_batch_2 rfl (lv_at hl 1 rfl) ?_
  refine lv_iconst (v := nI 1) hx hb d_M_batch_3 (by decide) ?_
  refine ro_call (va_runV (As := [.int (nI i), .int (nI 1)]) (rest := [.ref (ad 0)]) ⟨hx, hb, hml, hown, hts⟩ (m_is_y l dC dI ad cI cJ cd n tc ki ra po se bc bs op pr pe pm i (nI 1) h0i hji hn hki) (cwV 2 hts (wAll_v kw_333 kw_335 ks_11 kw_2 kw_336) rfl rfl rfl (by decide +kernel) ⟨Nat.le_of_ble_eq_true rfl, Nat.le_of_ble_eq_true rfl⟩) (ro_preV bl_tt hK hP (ci := 1) (q0 := 0) rfl rfl (fun _ _ _ => trivial)) rfl rfl hl.1 rfl (lv_room (Nat.le_of_ble_eq_true rfl)) d_M_batch_4 ⟨Nat.le_of_ble_eq_true rfl, Nat.le_of_ble_eq_true rfl⟩) ?_
  refine W.eq (g2 := F0 m 7 ls [.int (nI 1), .ref (ad 0)]) rfl ?_
  refine lv_if_eq (tgt := 23) hx hb d_M_batch_7 (by decide) (fun c1 => ?_) (fun c1 => ?_)
  · exact absurd c1 (by decide)
  · refine lv_iload_n hx hb d_M_batch_10 rfl (lv_at hl 2 rfl) ?_
    refine lv_if_eq (tgt := 19) hx hb d_M_batch_11 (by decide) (fun c2 => ?_) (fun c2 => ?_)
    · exact absurd c2 (by decide)
    · refine lv_iload_n hx hb d_M_batch_14 rfl (lv_at hl 2 rfl) ?_
      refine lv_iconst (v := nI 1) hx hb d_M_batch_15 (by decide) ?_
      refine lv_icmp_ne (tgt := 23) hx hb d_M_batch_16 (by decide) (fun c3 => ?_) (fun c3 => ?_)
      · replace c3 := mt (nI_eq (by omega) (by omega)).mpr c3
        exact absurd rfl c3
      · replace c3 := (nI_eq (by omega) (by omega)).mp c3
        refine lv_iconst (v := nI 1) hx hb d_M_batch_19 (by decide) ?_
        refine lv_goto (tgt := 24) hx hb d_M_batch_20 (by decide) ?_
        refine mu_calli (va_runV (As := [.int (nI 1)]) (rest := []) ⟨hx, hb, hml, hown, hts⟩ (m_goes_y l dC dI ad cI cJ cd n tc ki ra po se bc bs op pr pe pm _ ) (cwV 1 hts (wAll_v kw_338 kw_340 ks_12 kw_2 kw_341) rfl rfl rfl (by decide +kernel) ⟨Nat.le_of_ble_eq_true rfl, Nat.le_of_ble_eq_true rfl⟩) (mu_preV hK hP hD (ci := 1) (q0 := 0) rfl rfl) rfl rfl hl.1 rfl (lv_room (Nat.le_of_ble_eq_true rfl)) d_M_batch_24 ⟨Nat.le_of_ble_eq_true rfl, Nat.le_of_ble_eq_true rfl⟩) hD hS hA (fun r H locs hq hP hD hS => ?_)
        obtain rfl := hq
        have hP : va_P (dC, dI) vwCl (md_w ad cI cJ 0 n tc ki ra po se bc bs op pr pe pm) H := hP
        have hD : va_D A (md_w ad cI cJ 0 n tc ki ra po se bc bs op pr pe pm) := hD
        refine lv_if_ne (tgt := 32) hx hb d_M_batch_27 (by decide) (fun c4 => ?_) (fun c4 => ?_)
        · refine lv_iload_n hx hb d_M_batch_32 rfl (lv_at hl 2 rfl) ?_
          refine lv_if_ne (tgt := 46) hx hb d_M_batch_33 (by decide) (fun c5 => ?_) (fun c5 => ?_)
          · refine lv_aload_n hx hb d_M_batch_46 rfl (lv_at hl 0 rfl) ?_
            refine va_get (D := (dC, dI)) (ci := 1) (v := .ref (ad 6)) (C := "ClearingBooksModel") (T := T_M) (N := 13) hx hb hts wi_M hown hK hP 0 rfl rfl 7 (by decide) (hts _ kw_280) (fun _ h9 => h9) rfl d_M_batch_47 ?_
            refine lv_iload_n hx hb d_M_batch_50 rfl (lv_at hl 1 rfl) ?_
            refine xa_laload (f := bs) hx hb hK hP 6 1 rfl rfl (j := i) (by omega) (by decide) d_M_batch_51 ?_
            exact W.lret (v := bs i) hx hb hr (fun t ht hW => ⟨⟨bs i, (), rfl, rfl, by rw [ht]; exact hP, va_K.moved hW.alike hK, hD⟩, hS.F ht⟩) hS.2.2 d_M_batch_52
          · exact absurd c5 (by decide)
        · exact absurd c4 (by decide)
set_option maxHeartbeats 4000000 in
set_option maxRecDepth 100000 in
theorem m_batch_tk (l : Launch) (dC : Nat → ClassId) (dI : Nat → Nat → Nat) (ad : Nat → Nat) (cI cJ : ClassId) (cd n tc : Nat) (ki ra : Nat → Int32) (po se : Nat → Int64) (bc : Nat → Int32) (bs op : Nat → Int64) (pr pe : Nat → Int32) (pm : Nat → Int64) (sz : Nat) (x k : Int32) (hn : n ≤ 15) (hno : ¬ is_k n ki x (nI 1)) : Met l y_M_batch (.code y_M_batch b_M_batch 3 (some .long) :: wAll) ({ frames := 1, cells := 0, slots := 0, locals := 22 } : Room) (mu_P [.ref (ad 0), .int x, .int k] (dC, dI) vwCl [(cI, .int), (cJ, .long)] (md_w ad cI cJ cd n tc ki ra po se bc bs op pr pe pm) sz) (va_Ql (fun (z : Int64) (_ : Unit) => z = 0) (mu_B (dC, dI) vwCl [(cI, .int), (cJ, .long)] (va_A (md_w ad cI cJ cd n tc ki ra po se bc bs op pr pe pm) sz) (md_w ad cI cJ 1 n tc ki ra po se bc bs op pr pe pm)) (va_A (md_w ad cI cJ cd n tc ki ra po se bc bs op pr pe pm) sz)) 0 0 (va_A (md_w ad cI cJ cd n tc ki ra po se bc bs op pr pe pm) sz) := by
  refine Met.ofW (cc := b_M_batch) (maxL := 3) (ret := (some .long)) (by decide) rfl ?_
  intro p e s m args below meth c s₁ B hml hv
  obtain ⟨rfl, hsz, hP, hK, hD0⟩ := hv
  have hx := B.exec
  have hb := B.bytes
  have hr := B.returns
  have hts0 := atoms_spec (ws := (.code y_M_batch b_M_batch 3 (some .long) :: wAll)) B.pre
  have hts := hts_all hts0
  have hown : s.vm.findClass "ClearingBooksModel" = some m.cls := findClass_of_methodNamed B.named
  have hlocks := B.notSynchronized
  subst hsz
  have hD := hD0.self (sz := s.heap.size)
  generalize hAe : va_A (md_w ad cI cJ cd n tc ki ra po se bc bs op pr pe pm) s.heap.size = A at hD ⊢
  have hA : ∀ q : Nat, s.heap.size ≤ q → A q := fun q h => by rw [← hAe]; exact Or.inr h
  have hS : va_S A s.heap s.heap [] := va_S.rf
  have hl := lv_entry ([.ref (ad 0), .int x, .int k]) (n := 3) (Nat.le_of_ble_eq_true rfl)
  rw [lg_entry_eq]
  generalize (lg_sl ([.ref (ad 0), .int x, .int k]) ++ List.replicate (3 - (lg_sl ([.ref (ad 0), .int x, .int k])).length) Slot.unset).toArray = ls at hl ⊢
  have hl : lv_has ls 3 [(0, .ref (ad 0)), (1, .int x), (2, .int k)] := hl
  refine lv_aload_n hx hb d_M_batch_0 rfl (lv_at hl 0 rfl) ?_
  refine lv_aload_n hx hb d_M_batch_1 rfl (lv_at hl 0 rfl) ?_
  refine lv_iload_n hx hb d_M_batch_2 rfl (lv_at hl 1 rfl) ?_
  refine lv_iconst (v := nI 1) hx hb d_M_batch_3 (by decide) ?_
  refine ro_call (va_runV (As := [.int x, .int (nI 1)]) (rest := [.ref (ad 0)]) ⟨hx, hb, hml, hown, hts⟩ (m_is_n l dC dI ad cI cJ cd n tc ki ra po se bc bs op pr pe pm x (nI 1) hn hno) (cwV 2 hts (wAll_v kw_333 kw_335 ks_11 kw_2 kw_336) rfl rfl rfl (by decide +kernel) ⟨Nat.le_of_ble_eq_true rfl, Nat.le_of_ble_eq_true rfl⟩) (ro_preV bl_tt hK hP (ci := 1) (q0 := 0) rfl rfl (fun _ _ _ => trivial)) rfl rfl hl.1 rfl (lv_room (Nat.le_of_ble_eq_true rfl)) d_M_batch_4 ⟨Nat.le_of_ble_eq_true rfl, Nat.le_of_ble_eq_true rfl⟩) ?_
  refine W.eq (g2 := F0 m 7 ls [.int (nI 0), .ref (ad 0)]) rfl ?_
  refine lv_if_eq (tgt := 23) hx hb d_M_batch_7 (by decide) (fun c1 => ?_) (fun c1 => ?_)
  · refine lv_iconst (v := nI 0) hx hb d_M_batch_23 (by decide) ?_
    refine mu_calli (va_runV (As := [.int (nI 0)]) (rest := []) ⟨hx, hb, hml, hown, hts⟩ (m_goes_n l dC dI ad cI cJ cd n tc ki ra po se bc bs op pr pe pm _ ) (cwV 1 hts (wAll_v kw_338 kw_340 ks_12 kw_2 kw_341) rfl rfl rfl (by decide +kernel) ⟨Nat.le_of_ble_eq_true rfl, Nat.le_of_ble_eq_true rfl⟩) (mu_preV hK hP hD (ci := 1) (q0 := 0) rfl rfl) rfl rfl hl.1 rfl (lv_room (Nat.le_of_ble_eq_true rfl)) d_M_batch_24 ⟨Nat.le_of_ble_eq_true rfl, Nat.le_of_ble_eq_true rfl⟩) hD hS hA (fun r H locs hq hP hD hS => ?_)
    obtain rfl := hq
    have hP : va_P (dC, dI) vwCl (md_w ad cI cJ 1 n tc ki ra po se bc bs op pr pe pm) H := hP
    have hD : va_D A (md_w ad cI cJ 1 n tc ki ra po se bc bs op pr pe pm) := hD
    refine lv_if_ne (tgt := 32) hx hb d_M_batch_27 (by decide) (fun c2 => ?_) (fun c2 => ?_)
    · exact absurd rfl c2
    · refine lv_lconst (v := 0) hx hb d_M_batch_30 (by decide) ?_
      exact W.lret (v := 0) hx hb hr (fun t ht hW => ⟨⟨0, (), rfl, rfl, by rw [ht]; exact hP, va_K.moved hW.alike hK, hD⟩, hS.F ht⟩) hS.2.2 d_M_batch_31
  · exact absurd rfl c1
set_option maxHeartbeats 4000000 in
set_option maxRecDepth 100000 in
theorem m_batch_tw (l : Launch) (dC : Nat → ClassId) (dI : Nat → Nat → Nat) (ad : Nat → Nat) (cI cJ : ClassId) (cd n tc : Nat) (ki ra : Nat → Int32) (po se : Nat → Int64) (bc : Nat → Int32) (bs op : Nat → Int64) (pr pe : Nat → Int32) (pm : Nat → Int64) (sz : Nat) (i : Nat) (k : Int32) (h0i : 0 < i) (hji : i < n) (hn : n ≤ 15) (hki : ki i = nI 1) (hw0 : ¬ k = nI 0) (hw1 : ¬ k = nI 1) : Met l y_M_batch (.code y_M_batch b_M_batch 3 (some .long) :: wAll) ({ frames := 1, cells := 0, slots := 0, locals := 22 } : Room) (mu_P [.ref (ad 0), .int (nI i), .int k] (dC, dI) vwCl [(cI, .int), (cJ, .long)] (md_w ad cI cJ cd n tc ki ra po se bc bs op pr pe pm) sz) (va_Ql (fun (z : Int64) (_ : Unit) => z = 0) (mu_B (dC, dI) vwCl [(cI, .int), (cJ, .long)] (va_A (md_w ad cI cJ cd n tc ki ra po se bc bs op pr pe pm) sz) (md_w ad cI cJ 1 n tc ki ra po se bc bs op pr pe pm)) (va_A (md_w ad cI cJ cd n tc ki ra po se bc bs op pr pe pm) sz)) 0 0 (va_A (md_w ad cI cJ cd n tc ki ra po se bc bs op pr pe pm) sz) := by
  refine Met.ofW (cc := b_M_batch) (maxL := 3) (ret := (some .long)) (by decide) rfl ?_
  intro p e s m args below meth c s₁ B hml hv
  obtain ⟨rfl, hsz, hP, hK, hD0⟩ := hv
  have hx := B.exec
  have hb := B.bytes
  have hr := B.returns
  have hts0 := atoms_spec (ws := (.code y_M_batch b_M_batch 3 (some .long) :: wAll)) B.pre
  have hts := hts_all hts0
  have hown : s.vm.findClass "ClearingBooksModel" = some m.cls := findClass_of_methodNamed B.named
  have hlocks := B.notSynchronized
  subst hsz
  have hD := hD0.self (sz := s.heap.size)
  generalize hAe : va_A (md_w ad cI cJ cd n tc ki ra po se bc bs op pr pe pm) s.heap.size = A at hD ⊢
  have hA : ∀ q : Nat, s.heap.size ≤ q → A q := fun q h => by rw [← hAe]; exact Or.inr h
  have hS : va_S A s.heap s.heap [] := va_S.rf
  have hl := lv_entry ([.ref (ad 0), .int (nI i), .int k]) (n := 3) (Nat.le_of_ble_eq_true rfl)
  rw [lg_entry_eq]
  generalize (lg_sl ([.ref (ad 0), .int (nI i), .int k]) ++ List.replicate (3 - (lg_sl ([.ref (ad 0), .int (nI i), .int k])).length) Slot.unset).toArray = ls at hl ⊢
  have hl : lv_has ls 3 [(0, .ref (ad 0)), (1, .int (nI i)), (2, .int k)] := hl
  refine lv_aload_n hx hb d_M_batch_0 rfl (lv_at hl 0 rfl) ?_
  refine lv_aload_n hx hb d_M_batch_1 rfl (lv_at hl 0 rfl) ?_
  refine lv_iload_n hx hb d_M_batch_2 rfl (lv_at hl 1 rfl) ?_
  refine lv_iconst (v := nI 1) hx hb d_M_batch_3 (by decide) ?_
  refine ro_call (va_runV (As := [.int (nI i), .int (nI 1)]) (rest := [.ref (ad 0)]) ⟨hx, hb, hml, hown, hts⟩ (m_is_y l dC dI ad cI cJ cd n tc ki ra po se bc bs op pr pe pm i (nI 1) h0i hji hn hki) (cwV 2 hts (wAll_v kw_333 kw_335 ks_11 kw_2 kw_336) rfl rfl rfl (by decide +kernel) ⟨Nat.le_of_ble_eq_true rfl, Nat.le_of_ble_eq_true rfl⟩) (ro_preV bl_tt hK hP (ci := 1) (q0 := 0) rfl rfl (fun _ _ _ => trivial)) rfl rfl hl.1 rfl (lv_room (Nat.le_of_ble_eq_true rfl)) d_M_batch_4 ⟨Nat.le_of_ble_eq_true rfl, Nat.le_of_ble_eq_true rfl⟩) ?_
  refine W.eq (g2 := F0 m 7 ls [.int (nI 1), .ref (ad 0)]) rfl ?_
  refine lv_if_eq (tgt := 23) hx hb d_M_batch_7 (by decide) (fun c1 => ?_) (fun c1 => ?_)
  · exact absurd c1 (by decide)
  · refine lv_iload_n hx hb d_M_batch_10 rfl (lv_at hl 2 rfl) ?_
    refine lv_if_eq (tgt := 19) hx hb d_M_batch_11 (by decide) (fun c2 => ?_) (fun c2 => ?_)
    · exact absurd c2 hw0
    · refine lv_iload_n hx hb d_M_batch_14 rfl (lv_at hl 2 rfl) ?_
      refine lv_iconst (v := nI 1) hx hb d_M_batch_15 (by decide) ?_
      refine lv_icmp_ne (tgt := 23) hx hb d_M_batch_16 (by decide) (fun c3 => ?_) (fun c3 => ?_)
      · refine lv_iconst (v := nI 0) hx hb d_M_batch_23 (by decide) ?_
        refine mu_calli (va_runV (As := [.int (nI 0)]) (rest := []) ⟨hx, hb, hml, hown, hts⟩ (m_goes_n l dC dI ad cI cJ cd n tc ki ra po se bc bs op pr pe pm _ ) (cwV 1 hts (wAll_v kw_338 kw_340 ks_12 kw_2 kw_341) rfl rfl rfl (by decide +kernel) ⟨Nat.le_of_ble_eq_true rfl, Nat.le_of_ble_eq_true rfl⟩) (mu_preV hK hP hD (ci := 1) (q0 := 0) rfl rfl) rfl rfl hl.1 rfl (lv_room (Nat.le_of_ble_eq_true rfl)) d_M_batch_24 ⟨Nat.le_of_ble_eq_true rfl, Nat.le_of_ble_eq_true rfl⟩) hD hS hA (fun r H locs hq hP hD hS => ?_)
        obtain rfl := hq
        have hP : va_P (dC, dI) vwCl (md_w ad cI cJ 1 n tc ki ra po se bc bs op pr pe pm) H := hP
        have hD : va_D A (md_w ad cI cJ 1 n tc ki ra po se bc bs op pr pe pm) := hD
        refine lv_if_ne (tgt := 32) hx hb d_M_batch_27 (by decide) (fun c4 => ?_) (fun c4 => ?_)
        · exact absurd rfl c4
        · refine lv_lconst (v := 0) hx hb d_M_batch_30 (by decide) ?_
          exact W.lret (v := 0) hx hb hr (fun t ht hW => ⟨⟨0, (), rfl, rfl, by rw [ht]; exact hP, va_K.moved hW.alike hK, hD⟩, hS.F ht⟩) hS.2.2 d_M_batch_31
      · exact absurd c3 hw1
set_option maxHeartbeats 4000000 in
set_option maxRecDepth 100000 in
theorem m_transfer_y0 (l : Launch) (dC : Nat → ClassId) (dI : Nat → Nat → Nat) (ad : Nat → Nat) (cI cJ : ClassId) (cd n tc : Nat) (ki ra : Nat → Int32) (po se : Nat → Int64) (bc : Nat → Int32) (bs op : Nat → Int64) (pr pe : Nat → Int32) (pm : Nat → Int64) (sz : Nat) (i : Nat) (hi : i < tc) (htc : tc ≤ 14) : Met l y_M_transfer (.code y_M_transfer b_M_transfer 3 (some .long) :: wAll) ({ frames := 1, cells := 0, slots := 0, locals := 21 } : Room) (mu_P [.ref (ad 0), .int (nI i), .int (nI 0)] (dC, dI) vwCl [(cI, .int), (cJ, .long)] (md_w ad cI cJ cd n tc ki ra po se bc bs op pr pe pm) sz) (va_Ql (fun (z : Int64) (_ : Unit) => z = (pr i).toInt64) (mu_B (dC, dI) vwCl [(cI, .int), (cJ, .long)] (va_A (md_w ad cI cJ cd n tc ki ra po se bc bs op pr pe pm) sz) (md_w ad cI cJ 0 n tc ki ra po se bc bs op pr pe pm)) (va_A (md_w ad cI cJ cd n tc ki ra po se bc bs op pr pe pm) sz)) 0 0 (va_A (md_w ad cI cJ cd n tc ki ra po se bc bs op pr pe pm) sz) := by
  refine Met.ofW (cc := b_M_transfer) (maxL := 3) (ret := (some .long)) (by decide) rfl ?_
  intro p e s m args below meth c s₁ B hml hv
  obtain ⟨rfl, hsz, hP, hK, hD0⟩ := hv
  have hx := B.exec
  have hb := B.bytes
  have hr := B.returns
  have hts0 := atoms_spec (ws := (.code y_M_transfer b_M_transfer 3 (some .long) :: wAll)) B.pre
  have hts := hts_all hts0
  have hown : s.vm.findClass "ClearingBooksModel" = some m.cls := findClass_of_methodNamed B.named
  have hlocks := B.notSynchronized
  subst hsz
  have hD := hD0.self (sz := s.heap.size)
  generalize hAe : va_A (md_w ad cI cJ cd n tc ki ra po se bc bs op pr pe pm) s.heap.size = A at hD ⊢
  have hA : ∀ q : Nat, s.heap.size ≤ q → A q := fun q h => by rw [← hAe]; exact Or.inr h
  have hS : va_S A s.heap s.heap [] := va_S.rf
  have hl := lv_entry ([.ref (ad 0), .int (nI i), .int (nI 0)]) (n := 3) (Nat.le_of_ble_eq_true rfl)
  rw [lg_entry_eq]
  generalize (lg_sl ([.ref (ad 0), .int (nI i), .int (nI 0)]) ++ List.replicate (3 - (lg_sl ([.ref (ad 0), .int (nI i), .int (nI 0)])).length) Slot.unset).toArray = ls at hl ⊢
  have hl : lv_has ls 3 [(0, .ref (ad 0)), (1, .int (nI i)), (2, .int (nI 0))] := hl
  refine lv_aload_n hx hb d_M_transfer_0 rfl (lv_at hl 0 rfl) ?_
  refine lv_iload_n hx hb d_M_transfer_1 rfl (lv_at hl 1 rfl) ?_
  refine lv_if_lt (tgt := 26) hx hb d_M_transfer_2 (by decide) (fun c1 => ?_) (fun c1 => ?_)
  · exact absurd c1 (nI_pos (by omega))
  · refine lv_iload_n hx hb d_M_transfer_5 rfl (lv_at hl 1 rfl) ?_
    refine lv_aload_n hx hb d_M_transfer_6 rfl (lv_at hl 0 rfl) ?_
    refine va_get (D := (dC, dI)) (ci := 1) (v := .int (nI tc)) (C := "ClearingBooksModel") (T := T_M) (N := 13) hx hb hts wi_M hown hK hP 0 rfl rfl 9 (by decide) (hts _ kw_282) (fun _ h9 => h9) rfl d_M_transfer_7 ?_
    refine lv_icmp_ge (tgt := 26) hx hb d_M_transfer_10 (by decide) (fun c2 => ?_) (fun c2 => ?_)
    · replace c2 := (nI_leI (by omega) (by omega)).mp c2
      exfalso; omega
    · replace c2 := mt (nI_leI (by omega) (by omega)).mpr c2
      refine lv_iload_n hx hb d_M_transfer_13 rfl (lv_at hl 2 rfl) ?_
      refine lv_if_lt (tgt := 26) hx hb d_M_transfer_14 (by decide) (fun c3 => ?_) (fun c3 => ?_)
      · exact absurd c3 (by decide)
      · refine lv_iload_n hx hb d_M_transfer_17 rfl (lv_at hl 2 rfl) ?_
        refine lv_iconst (v := nI 2) hx hb d_M_transfer_18 (by decide) ?_
        refine lv_icmp_gt (tgt := 26) hx hb d_M_transfer_19 (by decide) (fun c4 => ?_) (fun c4 => ?_)
        · replace c4 := (nI_ltI (by omega) (by omega)).mp c4
          exfalso; omega
        · replace c4 := mt (nI_ltI (by omega) (by omega)).mpr c4
          refine lv_iconst (v := nI 1) hx hb d_M_transfer_22 (by decide) ?_
          refine lv_goto (tgt := 27) hx hb d_M_transfer_23 (by decide) ?_
          refine mu_calli (va_runV (As := [.int (nI 1)]) (rest := []) ⟨hx, hb, hml, hown, hts⟩ (m_goes_y l dC dI ad cI cJ cd n tc ki ra po se bc bs op pr pe pm _ ) (cwV 1 hts (wAll_v kw_338 kw_340 ks_12 kw_2 kw_341) rfl rfl rfl (by decide +kernel) ⟨Nat.le_of_ble_eq_true rfl, Nat.le_of_ble_eq_true rfl⟩) (mu_preV hK hP hD (ci := 1) (q0 := 0) rfl rfl) rfl rfl hl.1 rfl (lv_room (Nat.le_of_ble_eq_true rfl)) d_M_transfer_27 ⟨Nat.le_of_ble_eq_true rfl, Nat.le_of_ble_eq_true rfl⟩) hD hS hA (fun r H locs hq hP hD hS => ?_)
          obtain rfl := hq
          have hP : va_P (dC, dI) vwCl (md_w ad cI cJ 0 n tc ki ra po se bc bs op pr pe pm) H := hP
          have hD : va_D A (md_w ad cI cJ 0 n tc ki ra po se bc bs op pr pe pm) := hD
          refine lv_if_ne (tgt := 35) hx hb d_M_transfer_30 (by decide) (fun c5 => ?_) (fun c5 => ?_)
          · refine lv_iload_n hx hb d_M_transfer_35 rfl (lv_at hl 2 rfl) ?_
            refine lv_if_ne (tgt := 49) hx hb d_M_transfer_36 (by decide) (fun c6 => ?_) (fun c6 => ?_)
            · exact absurd rfl c6
            · refine lv_aload_n hx hb d_M_transfer_39 rfl (lv_at hl 0 rfl) ?_
              refine va_get (D := (dC, dI)) (ci := 1) (v := .ref (ad 8)) (C := "ClearingBooksModel") (T := T_M) (N := 13) hx hb hts wi_M hown hK hP 0 rfl rfl 10 (by decide) (hts _ kw_283) (fun _ h9 => h9) rfl d_M_transfer_40 ?_
              refine lv_iload_n hx hb d_M_transfer_43 rfl (lv_at hl 1 rfl) ?_
              refine xa_iaload (f := pr) hx hb hK hP 8 0 rfl rfl (j := i) (by omega) (by decide) d_M_transfer_44 ?_
              refine lv_i2l (v := (pr i).toInt64) hx hb d_M_transfer_45 rfl ?_
              refine lv_goto (tgt := 70) hx hb d_M_transfer_46 (by decide) ?_
              exact W.lret (v := (pr i).toInt64) hx hb hr (fun t ht hW => ⟨⟨(pr i).toInt64, (), rfl, rfl, by rw [ht]; exact hP, va_K.moved hW.alike hK, hD⟩, hS.F ht⟩) hS.2.2 d_M_transfer_70
          · exact absurd c5 (by decide)
set_option maxHeartbeats 4000000 in
set_option maxRecDepth 100000 in
theorem m_transfer_y1 (l : Launch) (dC : Nat → ClassId) (dI : Nat → Nat → Nat) (ad : Nat → Nat) (cI cJ : ClassId) (cd n tc : Nat) (ki ra : Nat → Int32) (po se : Nat → Int64) (bc : Nat → Int32) (bs op : Nat → Int64) (pr pe : Nat → Int32) (pm : Nat → Int64) (sz : Nat) (i : Nat) (hi : i < tc) (htc : tc ≤ 14) : Met l y_M_transfer (.code y_M_transfer b_M_transfer 3 (some .long) :: wAll) ({ frames := 1, cells := 0, slots := 0, locals := 21 } : Room) (mu_P [.ref (ad 0), .int (nI i), .int (nI 1)] (dC, dI) vwCl [(cI, .int), (cJ, .long)] (md_w ad cI cJ cd n tc ki ra po se bc bs op pr pe pm) sz) (va_Ql (fun (z : Int64) (_ : Unit) => z = (pe i).toInt64) (mu_B (dC, dI) vwCl [(cI, .int), (cJ, .long)] (va_A (md_w ad cI cJ cd n tc ki ra po se bc bs op pr pe pm) sz) (md_w ad cI cJ 0 n tc ki ra po se bc bs op pr pe pm)) (va_A (md_w ad cI cJ cd n tc ki ra po se bc bs op pr pe pm) sz)) 0 0 (va_A (md_w ad cI cJ cd n tc ki ra po se bc bs op pr pe pm) sz) := by
  refine Met.ofW (cc := b_M_transfer) (maxL := 3) (ret := (some .long)) (by decide) rfl ?_
  intro p e s m args below meth c s₁ B hml hv
  obtain ⟨rfl, hsz, hP, hK, hD0⟩ := hv
  have hx := B.exec
  have hb := B.bytes
  have hr := B.returns
  have hts0 := atoms_spec (ws := (.code y_M_transfer b_M_transfer 3 (some .long) :: wAll)) B.pre
  have hts := hts_all hts0
  have hown : s.vm.findClass "ClearingBooksModel" = some m.cls := findClass_of_methodNamed B.named
  have hlocks := B.notSynchronized
  subst hsz
  have hD := hD0.self (sz := s.heap.size)
  generalize hAe : va_A (md_w ad cI cJ cd n tc ki ra po se bc bs op pr pe pm) s.heap.size = A at hD ⊢
  have hA : ∀ q : Nat, s.heap.size ≤ q → A q := fun q h => by rw [← hAe]; exact Or.inr h
  have hS : va_S A s.heap s.heap [] := va_S.rf
  have hl := lv_entry ([.ref (ad 0), .int (nI i), .int (nI 1)]) (n := 3) (Nat.le_of_ble_eq_true rfl)
  rw [lg_entry_eq]
  generalize (lg_sl ([.ref (ad 0), .int (nI i), .int (nI 1)]) ++ List.replicate (3 - (lg_sl ([.ref (ad 0), .int (nI i), .int (nI 1)])).length) Slot.unset).toArray = ls at hl ⊢
  have hl : lv_has ls 3 [(0, .ref (ad 0)), (1, .int (nI i)), (2, .int (nI 1))] := hl
  refine lv_aload_n hx hb d_M_transfer_0 rfl (lv_at hl 0 rfl) ?_
  refine lv_iload_n hx hb d_M_transfer_1 rfl (lv_at hl 1 rfl) ?_
  refine lv_if_lt (tgt := 26) hx hb d_M_transfer_2 (by decide) (fun c1 => ?_) (fun c1 => ?_)
  · exact absurd c1 (nI_pos (by omega))
  · refine lv_iload_n hx hb d_M_transfer_5 rfl (lv_at hl 1 rfl) ?_
    refine lv_aload_n hx hb d_M_transfer_6 rfl (lv_at hl 0 rfl) ?_
    refine va_get (D := (dC, dI)) (ci := 1) (v := .int (nI tc)) (C := "ClearingBooksModel") (T := T_M) (N := 13) hx hb hts wi_M hown hK hP 0 rfl rfl 9 (by decide) (hts _ kw_282) (fun _ h9 => h9) rfl d_M_transfer_7 ?_
    refine lv_icmp_ge (tgt := 26) hx hb d_M_transfer_10 (by decide) (fun c2 => ?_) (fun c2 => ?_)
    · replace c2 := (nI_leI (by omega) (by omega)).mp c2
      exfalso; omega
    · replace c2 := mt (nI_leI (by omega) (by omega)).mpr c2
      refine lv_iload_n hx hb d_M_transfer_13 rfl (lv_at hl 2 rfl) ?_
      refine lv_if_lt (tgt := 26) hx hb d_M_transfer_14 (by decide) (fun c3 => ?_) (fun c3 => ?_)
      · exact absurd c3 (by decide)
      · refine lv_iload_n hx hb d_M_transfer_17 rfl (lv_at hl 2 rfl) ?_
        refine lv_iconst (v := nI 2) hx hb d_M_transfer_18 (by decide) ?_
        refine lv_icmp_gt (tgt := 26) hx hb d_M_transfer_19 (by decide) (fun c4 => ?_) (fun c4 => ?_)
        · replace c4 := (nI_ltI (by omega) (by omega)).mp c4
          exfalso; omega
        · replace c4 := mt (nI_ltI (by omega) (by omega)).mpr c4
          refine lv_iconst (v := nI 1) hx hb d_M_transfer_22 (by decide) ?_
          refine lv_goto (tgt := 27) hx hb d_M_transfer_23 (by decide) ?_
          refine mu_calli (va_runV (As := [.int (nI 1)]) (rest := []) ⟨hx, hb, hml, hown, hts⟩ (m_goes_y l dC dI ad cI cJ cd n tc ki ra po se bc bs op pr pe pm _ ) (cwV 1 hts (wAll_v kw_338 kw_340 ks_12 kw_2 kw_341) rfl rfl rfl (by decide +kernel) ⟨Nat.le_of_ble_eq_true rfl, Nat.le_of_ble_eq_true rfl⟩) (mu_preV hK hP hD (ci := 1) (q0 := 0) rfl rfl) rfl rfl hl.1 rfl (lv_room (Nat.le_of_ble_eq_true rfl)) d_M_transfer_27 ⟨Nat.le_of_ble_eq_true rfl, Nat.le_of_ble_eq_true rfl⟩) hD hS hA (fun r H locs hq hP hD hS => ?_)
          obtain rfl := hq
          have hP : va_P (dC, dI) vwCl (md_w ad cI cJ 0 n tc ki ra po se bc bs op pr pe pm) H := hP
          have hD : va_D A (md_w ad cI cJ 0 n tc ki ra po se bc bs op pr pe pm) := hD
          refine lv_if_ne (tgt := 35) hx hb d_M_transfer_30 (by decide) (fun c5 => ?_) (fun c5 => ?_)
          · refine lv_iload_n hx hb d_M_transfer_35 rfl (lv_at hl 2 rfl) ?_
            refine lv_if_ne (tgt := 49) hx hb d_M_transfer_36 (by decide) (fun c6 => ?_) (fun c6 => ?_)
            · refine lv_iload_n hx hb d_M_transfer_49 rfl (lv_at hl 2 rfl) ?_
              refine lv_iconst (v := nI 1) hx hb d_M_transfer_50 (by decide) ?_
              refine lv_icmp_ne (tgt := 64) hx hb d_M_transfer_51 (by decide) (fun c7 => ?_) (fun c7 => ?_)
              · replace c7 := mt (nI_eq (by omega) (by omega)).mpr c7
                exact absurd rfl c7
              · replace c7 := (nI_eq (by omega) (by omega)).mp c7
                refine lv_aload_n hx hb d_M_transfer_54 rfl (lv_at hl 0 rfl) ?_
                refine va_get (D := (dC, dI)) (ci := 1) (v := .ref (ad 9)) (C := "ClearingBooksModel") (T := T_M) (N := 13) hx hb hts wi_M hown hK hP 0 rfl rfl 11 (by decide) (hts _ kw_284) (fun _ h9 => h9) rfl d_M_transfer_55 ?_
                refine lv_iload_n hx hb d_M_transfer_58 rfl (lv_at hl 1 rfl) ?_
                refine xa_iaload (f := pe) hx hb hK hP 9 0 rfl rfl (j := i) (by omega) (by decide) d_M_transfer_59 ?_
                refine lv_i2l (v := (pe i).toInt64) hx hb d_M_transfer_60 rfl ?_
                refine lv_goto (tgt := 70) hx hb d_M_transfer_61 (by decide) ?_
                exact W.lret (v := (pe i).toInt64) hx hb hr (fun t ht hW => ⟨⟨(pe i).toInt64, (), rfl, rfl, by rw [ht]; exact hP, va_K.moved hW.alike hK, hD⟩, hS.F ht⟩) hS.2.2 d_M_transfer_70
            · exact absurd c6 (by decide)
          · exact absurd c5 (by decide)
set_option maxHeartbeats 4000000 in
set_option maxRecDepth 100000 in
theorem m_transfer_y2 (l : Launch) (dC : Nat → ClassId) (dI : Nat → Nat → Nat) (ad : Nat → Nat) (cI cJ : ClassId) (cd n tc : Nat) (ki ra : Nat → Int32) (po se : Nat → Int64) (bc : Nat → Int32) (bs op : Nat → Int64) (pr pe : Nat → Int32) (pm : Nat → Int64) (sz : Nat) (i : Nat) (hi : i < tc) (htc : tc ≤ 14) : Met l y_M_transfer (.code y_M_transfer b_M_transfer 3 (some .long) :: wAll) ({ frames := 1, cells := 0, slots := 0, locals := 21 } : Room) (mu_P [.ref (ad 0), .int (nI i), .int (nI 2)] (dC, dI) vwCl [(cI, .int), (cJ, .long)] (md_w ad cI cJ cd n tc ki ra po se bc bs op pr pe pm) sz) (va_Ql (fun (z : Int64) (_ : Unit) => z = pm i) (mu_B (dC, dI) vwCl [(cI, .int), (cJ, .long)] (va_A (md_w ad cI cJ cd n tc ki ra po se bc bs op pr pe pm) sz) (md_w ad cI cJ 0 n tc ki ra po se bc bs op pr pe pm)) (va_A (md_w ad cI cJ cd n tc ki ra po se bc bs op pr pe pm) sz)) 0 0 (va_A (md_w ad cI cJ cd n tc ki ra po se bc bs op pr pe pm) sz) := by
  refine Met.ofW (cc := b_M_transfer) (maxL := 3) (ret := (some .long)) (by decide) rfl ?_
  intro p e s m args below meth c s₁ B hml hv
  obtain ⟨rfl, hsz, hP, hK, hD0⟩ := hv
  have hx := B.exec
  have hb := B.bytes
  have hr := B.returns
  have hts0 := atoms_spec (ws := (.code y_M_transfer b_M_transfer 3 (some .long) :: wAll)) B.pre
  have hts := hts_all hts0
  have hown : s.vm.findClass "ClearingBooksModel" = some m.cls := findClass_of_methodNamed B.named
  have hlocks := B.notSynchronized
  subst hsz
  have hD := hD0.self (sz := s.heap.size)
  generalize hAe : va_A (md_w ad cI cJ cd n tc ki ra po se bc bs op pr pe pm) s.heap.size = A at hD ⊢
  have hA : ∀ q : Nat, s.heap.size ≤ q → A q := fun q h => by rw [← hAe]; exact Or.inr h
  have hS : va_S A s.heap s.heap [] := va_S.rf
  have hl := lv_entry ([.ref (ad 0), .int (nI i), .int (nI 2)]) (n := 3) (Nat.le_of_ble_eq_true rfl)
  rw [lg_entry_eq]
  generalize (lg_sl ([.ref (ad 0), .int (nI i), .int (nI 2)]) ++ List.replicate (3 - (lg_sl ([.ref (ad 0), .int (nI i), .int (nI 2)])).length) Slot.unset).toArray = ls at hl ⊢
  have hl : lv_has ls 3 [(0, .ref (ad 0)), (1, .int (nI i)), (2, .int (nI 2))] := hl
  refine lv_aload_n hx hb d_M_transfer_0 rfl (lv_at hl 0 rfl) ?_
  refine lv_iload_n hx hb d_M_transfer_1 rfl (lv_at hl 1 rfl) ?_
  refine lv_if_lt (tgt := 26) hx hb d_M_transfer_2 (by decide) (fun c1 => ?_) (fun c1 => ?_)
  · exact absurd c1 (nI_pos (by omega))
  · refine lv_iload_n hx hb d_M_transfer_5 rfl (lv_at hl 1 rfl) ?_
    refine lv_aload_n hx hb d_M_transfer_6 rfl (lv_at hl 0 rfl) ?_
    refine va_get (D := (dC, dI)) (ci := 1) (v := .int (nI tc)) (C := "ClearingBooksModel") (T := T_M) (N := 13) hx hb hts wi_M hown hK hP 0 rfl rfl 9 (by decide) (hts _ kw_282) (fun _ h9 => h9) rfl d_M_transfer_7 ?_
    refine lv_icmp_ge (tgt := 26) hx hb d_M_transfer_10 (by decide) (fun c2 => ?_) (fun c2 => ?_)
    · replace c2 := (nI_leI (by omega) (by omega)).mp c2
      exfalso; omega
    · replace c2 := mt (nI_leI (by omega) (by omega)).mpr c2
      refine lv_iload_n hx hb d_M_transfer_13 rfl (lv_at hl 2 rfl) ?_
      refine lv_if_lt (tgt := 26) hx hb d_M_transfer_14 (by decide) (fun c3 => ?_) (fun c3 => ?_)
      · exact absurd c3 (by decide)
      · refine lv_iload_n hx hb d_M_transfer_17 rfl (lv_at hl 2 rfl) ?_
        refine lv_iconst (v := nI 2) hx hb d_M_transfer_18 (by decide) ?_
        refine lv_icmp_gt (tgt := 26) hx hb d_M_transfer_19 (by decide) (fun c4 => ?_) (fun c4 => ?_)
        · replace c4 := (nI_ltI (by omega) (by omega)).mp c4
          exfalso; omega
        · replace c4 := mt (nI_ltI (by omega) (by omega)).mpr c4
          refine lv_iconst (v := nI 1) hx hb d_M_transfer_22 (by decide) ?_
          refine lv_goto (tgt := 27) hx hb d_M_transfer_23 (by decide) ?_
          refine mu_calli (va_runV (As := [.int (nI 1)]) (rest := []) ⟨hx, hb, hml, hown, hts⟩ (m_goes_y l dC dI ad cI cJ cd n tc ki ra po se bc bs op pr pe pm _ ) (cwV 1 hts (wAll_v kw_338 kw_340 ks_12 kw_2 kw_341) rfl rfl rfl (by decide +kernel) ⟨Nat.le_of_ble_eq_true rfl, Nat.le_of_ble_eq_true rfl⟩) (mu_preV hK hP hD (ci := 1) (q0 := 0) rfl rfl) rfl rfl hl.1 rfl (lv_room (Nat.le_of_ble_eq_true rfl)) d_M_transfer_27 ⟨Nat.le_of_ble_eq_true rfl, Nat.le_of_ble_eq_true rfl⟩) hD hS hA (fun r H locs hq hP hD hS => ?_)
          obtain rfl := hq
          have hP : va_P (dC, dI) vwCl (md_w ad cI cJ 0 n tc ki ra po se bc bs op pr pe pm) H := hP
          have hD : va_D A (md_w ad cI cJ 0 n tc ki ra po se bc bs op pr pe pm) := hD
          refine lv_if_ne (tgt := 35) hx hb d_M_transfer_30 (by decide) (fun c5 => ?_) (fun c5 => ?_)
          · refine lv_iload_n hx hb d_M_transfer_35 rfl (lv_at hl 2 rfl) ?_
            refine lv_if_ne (tgt := 49) hx hb d_M_transfer_36 (by decide) (fun c6 => ?_) (fun c6 => ?_)
            · refine lv_iload_n hx hb d_M_transfer_49 rfl (lv_at hl 2 rfl) ?_
              refine lv_iconst (v := nI 1) hx hb d_M_transfer_50 (by decide) ?_
              refine lv_icmp_ne (tgt := 64) hx hb d_M_transfer_51 (by decide) (fun c7 => ?_) (fun c7 => ?_)
              · replace c7 := mt (nI_eq (by omega) (by omega)).mpr c7
                refine lv_aload_n hx hb d_M_transfer_64 rfl (lv_at hl 0 rfl) ?_
                refine va_get (D := (dC, dI)) (ci := 1) (v := .ref (ad 10)) (C := "ClearingBooksModel") (T := T_M) (N := 13) hx hb hts wi_M hown hK hP 0 rfl rfl 12 (by decide) (hts _ kw_285) (fun _ h9 => h9) rfl d_M_transfer_65 ?_
                refine lv_iload_n hx hb d_M_transfer_68 rfl (lv_at hl 1 rfl) ?_
                refine xa_laload (f := pm) hx hb hK hP 10 1 rfl rfl (j := i) (by omega) (by decide) d_M_transfer_69 ?_
                exact W.lret (v := pm i) hx hb hr (fun t ht hW => ⟨⟨pm i, (), rfl, rfl, by rw [ht]; exact hP, va_K.moved hW.alike hK, hD⟩, hS.F ht⟩) hS.2.2 d_M_transfer_70
              · replace c7 := (nI_eq (by omega) (by omega)).mp c7
                exfalso; omega
            · exact absurd c6 (by decide)
          · exact absurd c5 (by decide)
set_option maxHeartbeats 4000000 in
set_option maxRecDepth 100000 in
theorem m_transfer_tk (l : Launch) (dC : Nat → ClassId) (dI : Nat → Nat → Nat) (ad : Nat → Nat) (cI cJ : ClassId) (cd n tc : Nat) (ki ra : Nat → Int32) (po se : Nat → Int64) (bc : Nat → Int32) (bs op : Nat → Int64) (pr pe : Nat → Int32) (pm : Nat → Int64) (sz : Nat) (x k : Int32) (hno : ¬ (¬ x < 0 ∧ x < nI tc)) : Met l y_M_transfer (.code y_M_transfer b_M_transfer 3 (some .long) :: wAll) ({ frames := 1, cells := 0, slots := 0, locals := 21 } : Room) (mu_P [.ref (ad 0), .int x, .int k] (dC, dI) vwCl [(cI, .int), (cJ, .long)] (md_w ad cI cJ cd n tc ki ra po se bc bs op pr pe pm) sz) (va_Ql (fun (z : Int64) (_ : Unit) => z = 0) (mu_B (dC, dI) vwCl [(cI, .int), (cJ, .long)] (va_A (md_w ad cI cJ cd n tc ki ra po se bc bs op pr pe pm) sz) (md_w ad cI cJ 1 n tc ki ra po se bc bs op pr pe pm)) (va_A (md_w ad cI cJ cd n tc ki ra po se bc bs op pr pe pm) sz)) 0 0 (va_A (md_w ad cI cJ cd n tc ki ra po se bc bs op pr pe pm) sz) := by
  refine Met.ofW (cc := b_M_transfer) (maxL := 3) (ret := (some .long)) (by decide) rfl ?_
  intro p e s m args below meth c s₁ B hml hv
  obtain ⟨rfl, hsz, hP, hK, hD0⟩ := hv
  have hx := B.exec
  have hb := B.bytes
  have hr := B.returns
  have hts0 := atoms_spec (ws := (.code y_M_transfer b_M_transfer 3 (some .long) :: wAll)) B.pre
  have hts := hts_all hts0
  have hown : s.vm.findClass "ClearingBooksModel" = some m.cls := findClass_of_methodNamed B.named
  have hlocks := B.notSynchronized
  subst hsz
  have hD := hD0.self (sz := s.heap.size)
  generalize hAe : va_A (md_w ad cI cJ cd n tc ki ra po se bc bs op pr pe pm) s.heap.size = A at hD ⊢
  have hA : ∀ q : Nat, s.heap.size ≤ q → A q := fun q h => by rw [← hAe]; exact Or.inr h
  have hS : va_S A s.heap s.heap [] := va_S.rf
  have hl := lv_entry ([.ref (ad 0), .int x, .int k]) (n := 3) (Nat.le_of_ble_eq_true rfl)
  rw [lg_entry_eq]
  generalize (lg_sl ([.ref (ad 0), .int x, .int k]) ++ List.replicate (3 - (lg_sl ([.ref (ad 0), .int x, .int k])).length) Slot.unset).toArray = ls at hl ⊢
  have hl : lv_has ls 3 [(0, .ref (ad 0)), (1, .int x), (2, .int k)] := hl
  refine lv_aload_n hx hb d_M_transfer_0 rfl (lv_at hl 0 rfl) ?_
  refine lv_iload_n hx hb d_M_transfer_1 rfl (lv_at hl 1 rfl) ?_
  refine lv_if_lt (tgt := 26) hx hb d_M_transfer_2 (by decide) (fun c1 => ?_) (fun c1 => ?_)
  · refine lv_iconst (v := nI 0) hx hb d_M_transfer_26 (by decide) ?_
    refine mu_calli (va_runV (As := [.int (nI 0)]) (rest := []) ⟨hx, hb, hml, hown, hts⟩ (m_goes_n l dC dI ad cI cJ cd n tc ki ra po se bc bs op pr pe pm _ ) (cwV 1 hts (wAll_v kw_338 kw_340 ks_12 kw_2 kw_341) rfl rfl rfl (by decide +kernel) ⟨Nat.le_of_ble_eq_true rfl, Nat.le_of_ble_eq_true rfl⟩) (mu_preV hK hP hD (ci := 1) (q0 := 0) rfl rfl) rfl rfl hl.1 rfl (lv_room (Nat.le_of_ble_eq_true rfl)) d_M_transfer_27 ⟨Nat.le_of_ble_eq_true rfl, Nat.le_of_ble_eq_true rfl⟩) hD hS hA (fun r H locs hq hP hD hS => ?_)
    obtain rfl := hq
    have hP : va_P (dC, dI) vwCl (md_w ad cI cJ 1 n tc ki ra po se bc bs op pr pe pm) H := hP
    have hD : va_D A (md_w ad cI cJ 1 n tc ki ra po se bc bs op pr pe pm) := hD
    refine lv_if_ne (tgt := 35) hx hb d_M_transfer_30 (by decide) (fun c2 => ?_) (fun c2 => ?_)
    · exact absurd rfl c2
    · refine lv_lconst (v := 0) hx hb d_M_transfer_33 (by decide) ?_
      exact W.lret (v := 0) hx hb hr (fun t ht hW => ⟨⟨0, (), rfl, rfl, by rw [ht]; exact hP, va_K.moved hW.alike hK, hD⟩, hS.F ht⟩) hS.2.2 d_M_transfer_34
  · refine lv_iload_n hx hb d_M_transfer_5 rfl (lv_at hl 1 rfl) ?_
    refine lv_aload_n hx hb d_M_transfer_6 rfl (lv_at hl 0 rfl) ?_
    refine va_get (D := (dC, dI)) (ci := 1) (v := .int (nI tc)) (C := "ClearingBooksModel") (T := T_M) (N := 13) hx hb hts wi_M hown hK hP 0 rfl rfl 9 (by decide) (hts _ kw_282) (fun _ h9 => h9) rfl d_M_transfer_7 ?_
    refine lv_icmp_ge (tgt := 26) hx hb d_M_transfer_10 (by decide) (fun c3 => ?_) (fun c3 => ?_)
    · refine lv_iconst (v := nI 0) hx hb d_M_transfer_26 (by decide) ?_
      refine mu_calli (va_runV (As := [.int (nI 0)]) (rest := []) ⟨hx, hb, hml, hown, hts⟩ (m_goes_n l dC dI ad cI cJ cd n tc ki ra po se bc bs op pr pe pm _ ) (cwV 1 hts (wAll_v kw_338 kw_340 ks_12 kw_2 kw_341) rfl rfl rfl (by decide +kernel) ⟨Nat.le_of_ble_eq_true rfl, Nat.le_of_ble_eq_true rfl⟩) (mu_preV hK hP hD (ci := 1) (q0 := 0) rfl rfl) rfl rfl hl.1 rfl (lv_room (Nat.le_of_ble_eq_true rfl)) d_M_transfer_27 ⟨Nat.le_of_ble_eq_true rfl, Nat.le_of_ble_eq_true rfl⟩) hD hS hA (fun r H locs hq hP hD hS => ?_)
      obtain rfl := hq
      have hP : va_P (dC, dI) vwCl (md_w ad cI cJ 1 n tc ki ra po se bc bs op pr pe pm) H := hP
      have hD : va_D A (md_w ad cI cJ 1 n tc ki ra po se bc bs op pr pe pm) := hD
      refine lv_if_ne (tgt := 35) hx hb d_M_transfer_30 (by decide) (fun c4 => ?_) (fun c4 => ?_)
      · exact absurd rfl c4
      · refine lv_lconst (v := 0) hx hb d_M_transfer_33 (by decide) ?_
        exact W.lret (v := 0) hx hb hr (fun t ht hW => ⟨⟨0, (), rfl, rfl, by rw [ht]; exact hP, va_K.moved hW.alike hK, hD⟩, hS.F ht⟩) hS.2.2 d_M_transfer_34
    · exact absurd ⟨c1, Int32.not_le.mp c3⟩ hno
set_option maxHeartbeats 4000000 in
set_option maxRecDepth 100000 in
theorem m_transfer_tw (l : Launch) (dC : Nat → ClassId) (dI : Nat → Nat → Nat) (ad : Nat → Nat) (cI cJ : ClassId) (cd n tc : Nat) (ki ra : Nat → Int32) (po se : Nat → Int64) (bc : Nat → Int32) (bs op : Nat → Int64) (pr pe : Nat → Int32) (pm : Nat → Int64) (sz : Nat) (i : Nat) (k : Int32) (hi : i < tc) (htc : tc ≤ 14) (hw : k.toInt < 0 ∨ 2 < k.toInt) : Met l y_M_transfer (.code y_M_transfer b_M_transfer 3 (some .long) :: wAll) ({ frames := 1, cells := 0, slots := 0, locals := 21 } : Room) (mu_P [.ref (ad 0), .int (nI i), .int k] (dC, dI) vwCl [(cI, .int), (cJ, .long)] (md_w ad cI cJ cd n tc ki ra po se bc bs op pr pe pm) sz) (va_Ql (fun (z : Int64) (_ : Unit) => z = 0) (mu_B (dC, dI) vwCl [(cI, .int), (cJ, .long)] (va_A (md_w ad cI cJ cd n tc ki ra po se bc bs op pr pe pm) sz) (md_w ad cI cJ 1 n tc ki ra po se bc bs op pr pe pm)) (va_A (md_w ad cI cJ cd n tc ki ra po se bc bs op pr pe pm) sz)) 0 0 (va_A (md_w ad cI cJ cd n tc ki ra po se bc bs op pr pe pm) sz) := by
  refine Met.ofW (cc := b_M_transfer) (maxL := 3) (ret := (some .long)) (by decide) rfl ?_
  intro p e s m args below meth c s₁ B hml hv
  obtain ⟨rfl, hsz, hP, hK, hD0⟩ := hv
  have hx := B.exec
  have hb := B.bytes
  have hr := B.returns
  have hts0 := atoms_spec (ws := (.code y_M_transfer b_M_transfer 3 (some .long) :: wAll)) B.pre
  have hts := hts_all hts0
  have hown : s.vm.findClass "ClearingBooksModel" = some m.cls := findClass_of_methodNamed B.named
  have hlocks := B.notSynchronized
  subst hsz
  have hD := hD0.self (sz := s.heap.size)
  generalize hAe : va_A (md_w ad cI cJ cd n tc ki ra po se bc bs op pr pe pm) s.heap.size = A at hD ⊢
  have hA : ∀ q : Nat, s.heap.size ≤ q → A q := fun q h => by rw [← hAe]; exact Or.inr h
  have hS : va_S A s.heap s.heap [] := va_S.rf
  have hl := lv_entry ([.ref (ad 0), .int (nI i), .int k]) (n := 3) (Nat.le_of_ble_eq_true rfl)
  rw [lg_entry_eq]
  generalize (lg_sl ([.ref (ad 0), .int (nI i), .int k]) ++ List.replicate (3 - (lg_sl ([.ref (ad 0), .int (nI i), .int k])).length) Slot.unset).toArray = ls at hl ⊢
  have hl : lv_has ls 3 [(0, .ref (ad 0)), (1, .int (nI i)), (2, .int k)] := hl
  refine lv_aload_n hx hb d_M_transfer_0 rfl (lv_at hl 0 rfl) ?_
  refine lv_iload_n hx hb d_M_transfer_1 rfl (lv_at hl 1 rfl) ?_
  refine lv_if_lt (tgt := 26) hx hb d_M_transfer_2 (by decide) (fun c1 => ?_) (fun c1 => ?_)
  · exact absurd c1 (nI_pos (by omega))
  · refine lv_iload_n hx hb d_M_transfer_5 rfl (lv_at hl 1 rfl) ?_
    refine lv_aload_n hx hb d_M_transfer_6 rfl (lv_at hl 0 rfl) ?_
    refine va_get (D := (dC, dI)) (ci := 1) (v := .int (nI tc)) (C := "ClearingBooksModel") (T := T_M) (N := 13) hx hb hts wi_M hown hK hP 0 rfl rfl 9 (by decide) (hts _ kw_282) (fun _ h9 => h9) rfl d_M_transfer_7 ?_
    refine lv_icmp_ge (tgt := 26) hx hb d_M_transfer_10 (by decide) (fun c2 => ?_) (fun c2 => ?_)
    · replace c2 := (nI_leI (by omega) (by omega)).mp c2
      exfalso; omega
    · replace c2 := mt (nI_leI (by omega) (by omega)).mpr c2
      refine lv_iload_n hx hb d_M_transfer_13 rfl (lv_at hl 2 rfl) ?_
      refine lv_if_lt (tgt := 26) hx hb d_M_transfer_14 (by decide) (fun c3 => ?_) (fun c3 => ?_)
      · refine lv_iconst (v := nI 0) hx hb d_M_transfer_26 (by decide) ?_
        refine mu_calli (va_runV (As := [.int (nI 0)]) (rest := []) ⟨hx, hb, hml, hown, hts⟩ (m_goes_n l dC dI ad cI cJ cd n tc ki ra po se bc bs op pr pe pm _ ) (cwV 1 hts (wAll_v kw_338 kw_340 ks_12 kw_2 kw_341) rfl rfl rfl (by decide +kernel) ⟨Nat.le_of_ble_eq_true rfl, Nat.le_of_ble_eq_true rfl⟩) (mu_preV hK hP hD (ci := 1) (q0 := 0) rfl rfl) rfl rfl hl.1 rfl (lv_room (Nat.le_of_ble_eq_true rfl)) d_M_transfer_27 ⟨Nat.le_of_ble_eq_true rfl, Nat.le_of_ble_eq_true rfl⟩) hD hS hA (fun r H locs hq hP hD hS => ?_)
        obtain rfl := hq
        have hP : va_P (dC, dI) vwCl (md_w ad cI cJ 1 n tc ki ra po se bc bs op pr pe pm) H := hP
        have hD : va_D A (md_w ad cI cJ 1 n tc ki ra po se bc bs op pr pe pm) := hD
        refine lv_if_ne (tgt := 35) hx hb d_M_transfer_30 (by decide) (fun c4 => ?_) (fun c4 => ?_)
        · exact absurd rfl c4
        · refine lv_lconst (v := 0) hx hb d_M_transfer_33 (by decide) ?_
          exact W.lret (v := 0) hx hb hr (fun t ht hW => ⟨⟨0, (), rfl, rfl, by rw [ht]; exact hP, va_K.moved hW.alike hK, hD⟩, hS.F ht⟩) hS.2.2 d_M_transfer_34
      · refine lv_iload_n hx hb d_M_transfer_17 rfl (lv_at hl 2 rfl) ?_
        refine lv_iconst (v := nI 2) hx hb d_M_transfer_18 (by decide) ?_
        refine lv_icmp_gt (tgt := 26) hx hb d_M_transfer_19 (by decide) (fun c5 => ?_) (fun c5 => ?_)
        · refine lv_iconst (v := nI 0) hx hb d_M_transfer_26 (by decide) ?_
          refine mu_calli (va_runV (As := [.int (nI 0)]) (rest := []) ⟨hx, hb, hml, hown, hts⟩ (m_goes_n l dC dI ad cI cJ cd n tc ki ra po se bc bs op pr pe pm _ ) (cwV 1 hts (wAll_v kw_338 kw_340 ks_12 kw_2 kw_341) rfl rfl rfl (by decide +kernel) ⟨Nat.le_of_ble_eq_true rfl, Nat.le_of_ble_eq_true rfl⟩) (mu_preV hK hP hD (ci := 1) (q0 := 0) rfl rfl) rfl rfl hl.1 rfl (lv_room (Nat.le_of_ble_eq_true rfl)) d_M_transfer_27 ⟨Nat.le_of_ble_eq_true rfl, Nat.le_of_ble_eq_true rfl⟩) hD hS hA (fun r H locs hq hP hD hS => ?_)
          obtain rfl := hq
          have hP : va_P (dC, dI) vwCl (md_w ad cI cJ 1 n tc ki ra po se bc bs op pr pe pm) H := hP
          have hD : va_D A (md_w ad cI cJ 1 n tc ki ra po se bc bs op pr pe pm) := hD
          refine lv_if_ne (tgt := 35) hx hb d_M_transfer_30 (by decide) (fun c6 => ?_) (fun c6 => ?_)
          · exact absurd rfl c6
          · refine lv_lconst (v := 0) hx hb d_M_transfer_33 (by decide) ?_
            exact W.lret (v := 0) hx hb hr (fun t ht hW => ⟨⟨0, (), rfl, rfl, by rw [ht]; exact hP, va_K.moved hW.alike hK, hD⟩, hS.F ht⟩) hS.2.2 d_M_transfer_34
        · exact absurd hw (tw_no (m := 2) (by decide) c3 c5)
set_option maxHeartbeats 4000000 in
set_option maxRecDepth 100000 in
theorem m_party_y0 (l : Launch) (dC : Nat → ClassId) (dI : Nat → Nat → Nat) (ad : Nat → Nat) (cI cJ : ClassId) (cd n tc : Nat) (ki ra : Nat → Int32) (po se : Nat → Int64) (bc : Nat → Int32) (bs op : Nat → Int64) (pr pe : Nat → Int32) (pm : Nat → Int64) (sz : Nat) (i : Nat) (hi : i < n) (hn : n ≤ 15) : Met l y_M_party (.code y_M_party b_M_party 5 (some .long) :: wAll) ({ frames := 1, cells := 0, slots := 0, locals := 21 } : Room) (mu_P [.ref (ad 0), .int (nI i), .int (nI 0)] (dC, dI) vwCl [(cI, .int), (cJ, .long)] (md_w ad cI cJ cd n tc ki ra po se bc bs op pr pe pm) sz) (va_Ql (fun (z : Int64) (_ : Unit) => z = po i) (mu_B (dC, dI) vwCl [(cI, .int), (cJ, .long)] (va_A (md_w ad cI cJ cd n tc ki ra po se bc bs op pr pe pm) sz) (md_w ad cI cJ 0 n tc ki ra po se bc bs op pr pe pm)) (va_A (md_w ad cI cJ cd n tc ki ra po se bc bs op pr pe pm) sz)) 0 0 (va_A (md_w ad cI cJ cd n tc ki ra po se bc bs op pr pe pm) sz) := by
  refine Met.ofW (cc := b_M_party) (maxL := 5) (ret := (some .long)) (by decide) rfl ?_
  intro p e s m args below meth c s₁ B hml hv
  obtain ⟨rfl, hsz, hP, hK, hD0⟩ := hv
  have hx := B.exec
  have hb := B.bytes
  have hr := B.returns
  have hts0 := atoms_spec (ws := (.code y_M_party b_M_party 5 (some .long) :: wAll)) B.pre
  have hts := hts_all hts0
  have hown : s.vm.findClass "ClearingBooksModel" = some m.cls := findClass_of_methodNamed B.named
  have hlocks := B.notSynchronized
  subst hsz
  have hD := hD0.self (sz := s.heap.size)
  generalize hAe : va_A (md_w ad cI cJ cd n tc ki ra po se bc bs op pr pe pm) s.heap.size = A at hD ⊢
  have hA : ∀ q : Nat, s.heap.size ≤ q → A q := fun q h => by rw [← hAe]; exact Or.inr h
  have hS : va_S A s.heap s.heap [] := va_S.rf
  have hl := lv_entry ([.ref (ad 0), .int (nI i), .int (nI 0)]) (n := 5) (Nat.le_of_ble_eq_true rfl)
  rw [lg_entry_eq]
  generalize (lg_sl ([.ref (ad 0), .int (nI i), .int (nI 0)]) ++ List.replicate (5 - (lg_sl ([.ref (ad 0), .int (nI i), .int (nI 0)])).length) Slot.unset).toArray = ls at hl ⊢
  have hl : lv_has ls 5 [(0, .ref (ad 0)), (1, .int (nI i)), (2, .int (nI 0))] := hl
  refine lv_aload_n hx hb d_M_party_0 rfl (lv_at hl 0 rfl) ?_
  refine lv_iload_n hx hb d_M_party_1 rfl (lv_at hl 1 rfl) ?_
  refine lv_if_lt (tgt := 26) hx hb d_M_party_2 (by decide) (fun c1 => ?_) (fun c1 => ?_)
  · exact absurd c1 (nI_pos (by omega))
  · refine lv_iload_n hx hb d_M_party_5 rfl (lv_at hl 1 rfl) ?_
    refine lv_aload_n hx hb d_M_party_6 rfl (lv_at hl 0 rfl) ?_
    refine va_get (D := (dC, dI)) (ci := 1) (v := .int (nI n)) (C := "ClearingBooksModel") (T := T_M) (N := 13) hx hb hts wi_M hown hK hP 0 rfl rfl 1 (by decide) (hts _ kw_274) (fun _ h9 => h9) rfl d_M_party_7 ?_
    refine lv_icmp_ge (tgt := 26) hx hb d_M_party_10 (by decide) (fun c2 => ?_) (fun c2 => ?_)
    · replace c2 := (nI_leI (by omega) (by omega)).mp c2
      exfalso; omega
    · replace c2 := mt (nI_leI (by omega) (by omega)).mpr c2
      refine lv_iload_n hx hb d_M_party_13 rfl (lv_at hl 2 rfl) ?_
      refine lv_if_lt (tgt := 26) hx hb d_M_party_14 (by decide) (fun c3 => ?_) (fun c3 => ?_)
      · exact absurd c3 (by decide)
      · refine lv_iload_n hx hb d_M_party_17 rfl (lv_at hl 2 rfl) ?_
        refine lv_iconst (v := nI 4) hx hb d_M_party_18 (by decide) ?_
        refine lv_icmp_gt (tgt := 26) hx hb d_M_party_19 (by decide) (fun c4 => ?_) (fun c4 => ?_)
        · replace c4 := (nI_ltI (by omega) (by omega)).mp c4
          exfalso; omega
        · replace c4 := mt (nI_ltI (by omega) (by omega)).mpr c4
          refine lv_iconst (v := nI 1) hx hb d_M_party_22 (by decide) ?_
          refine lv_goto (tgt := 27) hx hb d_M_party_23 (by decide) ?_
          refine mu_calli (va_runV (As := [.int (nI 1)]) (rest := []) ⟨hx, hb, hml, hown, hts⟩ (m_goes_y l dC dI ad cI cJ cd n tc ki ra po se bc bs op pr pe pm _ ) (cwV 1 hts (wAll_v kw_338 kw_340 ks_12 kw_2 kw_341) rfl rfl rfl (by decide +kernel) ⟨Nat.le_of_ble_eq_true rfl, Nat.le_of_ble_eq_true rfl⟩) (mu_preV hK hP hD (ci := 1) (q0 := 0) rfl rfl) rfl rfl hl.1 rfl (lv_room (Nat.le_of_ble_eq_true rfl)) d_M_party_27 ⟨Nat.le_of_ble_eq_true rfl, Nat.le_of_ble_eq_true rfl⟩) hD hS hA (fun r H locs hq hP hD hS => ?_)
          obtain rfl := hq
          have hP : va_P (dC, dI) vwCl (md_w ad cI cJ 0 n tc ki ra po se bc bs op pr pe pm) H := hP
          have hD : va_D A (md_w ad cI cJ 0 n tc ki ra po se bc bs op pr pe pm) := hD
          refine lv_if_ne (tgt := 35) hx hb d_M_party_30 (by decide) (fun c5 => ?_) (fun c5 => ?_)
          · refine lv_iload_n hx hb d_M_party_35 rfl (lv_at hl 2 rfl) ?_
            refine lv_iconst (v := nI 4) hx hb d_M_party_36 (by decide) ?_
            refine lv_icmp_ge (tgt := 90) hx hb d_M_party_37 (by decide) (fun c6 => ?_) (fun c6 => ?_)
            · replace c6 := (nI_leI (by omega) (by omega)).mp c6
              exfalso; omega
            · replace c6 := mt (nI_leI (by omega) (by omega)).mpr c6
              refine lv_iload_n hx hb d_M_party_40 rfl (lv_at hl 2 rfl) ?_
              refine lv_if_ne (tgt := 53) hx hb d_M_party_41 (by decide) (fun c7 => ?_) (fun c7 => ?_)
              · exact absurd rfl c7
              · refine lv_aload_n hx hb d_M_party_44 rfl (lv_at hl 0 rfl) ?_
                refine va_get (D := (dC, dI)) (ci := 1) (v := .ref (ad 3)) (C := "ClearingBooksModel") (T := T_M) (N := 13) hx hb hts wi_M hown hK hP 0 rfl rfl 4 (by decide) (hts _ kw_277) (fun _ h9 => h9) rfl d_M_party_45 ?_
                refine lv_iload_n hx hb d_M_party_48 rfl (lv_at hl 1 rfl) ?_
                refine xa_laload (f := po) hx hb hK hP 3 1 rfl rfl (j := i) (by omega) (by decide) d_M_party_49 ?_
                refine lv_goto (tgt := 89) hx hb d_M_party_50 (by decide) ?_
                exact W.lret (v := po i) hx hb hr (fun t ht hW => ⟨⟨po i, (), rfl, rfl, by rw [ht]; exact hP, va_K.moved hW.alike hK, hD⟩, hS.F ht⟩) hS.2.2 d_M_party_89
          · exact absurd c5 (by decide)
set_option maxHeartbeats 4000000 in
set_option maxRecDepth 100000 in
theorem m_party_y1 (l : Launch) (dC : Nat → ClassId) (dI : Nat → Nat → Nat) (ad : Nat → Nat) (cI cJ : ClassId) (cd n tc : Nat) (ki ra : Nat → Int32) (po se : Nat → Int64) (bc : Nat → Int32) (bs op : Nat → Int64) (pr pe : Nat → Int32) (pm : Nat → Int64) (sz : Nat) (i : Nat) (hi : i < n) (hn : n ≤ 15) : Met l y_M_party (.code y_M_party b_M_party 5 (some .long) :: wAll) ({ frames := 1, cells := 0, slots := 0, locals := 21 } : Room) (mu_P [.ref (ad 0), .int (nI i), .int (nI 1)] (dC, dI) vwCl [(cI, .int), (cJ, .long)] (md_w ad cI cJ cd n tc ki ra po se bc bs op pr pe pm) sz) (va_Ql (fun (z : Int64) (_ : Unit) => z = se i) (mu_B (dC, dI) vwCl [(cI, .int), (cJ, .long)] (va_A (md_w ad cI cJ cd n tc ki ra po se bc bs op pr pe pm) sz) (md_w ad cI cJ 0 n tc ki ra po se bc bs op pr pe pm)) (va_A (md_w ad cI cJ cd n tc ki ra po se bc bs op pr pe pm) sz)) 0 0 (va_A (md_w ad cI cJ cd n tc ki ra po se bc bs op pr pe pm) sz) := by
  refine Met.ofW (cc := b_M_party) (maxL := 5) (ret := (some .long)) (by decide) rfl ?_
  intro p e s m args below meth c s₁ B hml hv
  obtain ⟨rfl, hsz, hP, hK, hD0⟩ := hv
  have hx := B.exec
  have hb := B.bytes
  have hr := B.returns
  have hts0 := atoms_spec (ws := (.code y_M_party b_M_party 5 (some .long) :: wAll)) B.pre
  have hts := hts_all hts0
  have hown : s.vm.findClass "ClearingBooksModel" = some m.cls := findClass_of_methodNamed B.named
  have hlocks := B.notSynchronized
  subst hsz
  have hD := hD0.self (sz := s.heap.size)
  generalize hAe : va_A (md_w ad cI cJ cd n tc ki ra po se bc bs op pr pe pm) s.heap.size = A at hD ⊢
  have hA : ∀ q : Nat, s.heap.size ≤ q → A q := fun q h => by rw [← hAe]; exact Or.inr h
  have hS : va_S A s.heap s.heap [] := va_S.rf
  have hl := lv_entry ([.ref (ad 0), .int (nI i), .int (nI 1)]) (n := 5) (Nat.le_of_ble_eq_true rfl)
  rw [lg_entry_eq]
  generalize (lg_sl ([.ref (ad 0), .int (nI i), .int (nI 1)]) ++ List.replicate (5 - (lg_sl ([.ref (ad 0), .int (nI i), .int (nI 1)])).length) Slot.unset).toArray = ls at hl ⊢
  have hl : lv_has ls 5 [(0, .ref (ad 0)), (1, .int (nI i)), (2, .int (nI 1))] := hl
  refine lv_aload_n hx hb d_M_party_0 rfl (lv_at hl 0 rfl) ?_
  refine lv_iload_n hx hb d_M_party_1 rfl (lv_at hl 1 rfl) ?_
  refine lv_if_lt (tgt := 26) hx hb d_M_party_2 (by decide) (fun c1 => ?_) (fun c1 => ?_)
  · exact absurd c1 (nI_pos (by omega))
  · refine lv_iload_n hx hb d_M_party_5 rfl (lv_at hl 1 rfl) ?_
    refine lv_aload_n hx hb d_M_party_6 rfl (lv_at hl 0 rfl) ?_
    refine va_get (D := (dC, dI)) (ci := 1) (v := .int (nI n)) (C := "ClearingBooksModel") (T := T_M) (N := 13) hx hb hts wi_M hown hK hP 0 rfl rfl 1 (by decide) (hts _ kw_274) (fun _ h9 => h9) rfl d_M_party_7 ?_
    refine lv_icmp_ge (tgt := 26) hx hb d_M_party_10 (by decide) (fun c2 => ?_) (fun c2 => ?_)
    · replace c2 := (nI_leI (by omega) (by omega)).mp c2
      exfalso; omega
    · replace c2 := mt (nI_leI (by omega) (by omega)).mpr c2
      refine lv_iload_n hx hb d_M_party_13 rfl (lv_at hl 2 rfl) ?_
      refine lv_if_lt (tgt := 26) hx hb d_M_party_14 (by decide) (fun c3 => ?_) (fun c3 => ?_)
      · exact absurd c3 (by decide)
      · refine lv_iload_n hx hb d_M_party_17 rfl (lv_at hl 2 rfl) ?_
        refine lv_iconst (v := nI 4) hx hb d_M_party_18 (by decide) ?_
        refine lv_icmp_gt (tgt := 26) hx hb d_M_party_19 (by decide) (fun c4 => ?_) (fun c4 => ?_)
        · replace c4 := (nI_ltI (by omega) (by omega)).mp c4
          exfalso; omega
        · replace c4 := mt (nI_ltI (by omega) (by omega)).mpr c4
          refine lv_iconst (v := nI 1) hx hb d_M_party_22 (by decide) ?_
          refine lv_goto (tgt := 27) hx hb d_M_party_23 (by decide) ?_
          refine mu_calli (va_runV (As := [.int (nI 1)]) (rest := []) ⟨hx, hb, hml, hown, hts⟩ (m_goes_y l dC dI ad cI cJ cd n tc ki ra po se bc bs op pr pe pm _ ) (cwV 1 hts (wAll_v kw_338 kw_340 ks_12 kw_2 kw_341) rfl rfl rfl (by decide +kernel) ⟨Nat.le_of_ble_eq_true rfl, Nat.le_of_ble_eq_true rfl⟩) (mu_preV hK hP hD (ci := 1) (q0 := 0) rfl rfl) rfl rfl hl.1 rfl (lv_room (Nat.le_of_ble_eq_true rfl)) d_M_party_27 ⟨Nat.le_of_ble_eq_true rfl, Nat.le_of_ble_eq_true rfl⟩) hD hS hA (fun r H locs hq hP hD hS => ?_)
          obtain rfl := hq
          have hP : va_P (dC, dI) vwCl (md_w ad cI cJ 0 n tc ki ra po se bc bs op pr pe pm) H := hP
          have hD : va_D A (md_w ad cI cJ 0 n tc ki ra po se bc bs op pr pe pm) := hD
          refine lv_if_ne (tgt := 35) hx hb d_M_party_30 (by decide) (fun c5 => ?_) (fun c5 => ?_)
          · refine lv_iload_n hx hb d_M_party_35 rfl (lv_at hl 2 rfl) ?_
            refine lv_iconst (v := nI 4) hx hb d_M_party_36 (by decide) ?_
            refine lv_icmp_ge (tgt := 90) hx hb d_M_party_37 (by decide) (fun c6 => ?_) (fun c6 => ?_)
            · replace c6 := (nI_leI (by omega) (by omega)).mp c6
              exfalso; omega
            · replace c6 := mt (nI_leI (by omega) (by omega)).mpr c6
              refine lv_iload_n hx hb d_M_party_40 rfl (lv_at hl 2 rfl) ?_
              refine lv_if_ne (tgt := 53) hx hb d_M_party_41 (by decide) (fun c7 => ?_) (fun c7 => ?_)
              · refine lv_iload_n hx hb d_M_party_53 rfl (lv_at hl 2 rfl) ?_
                refine lv_iconst (v := nI 1) hx hb d_M_party_54 (by decide) ?_
                refine lv_icmp_ne (tgt := 67) hx hb d_M_party_55 (by decide) (fun c8 => ?_) (fun c8 => ?_)
                · replace c8 := mt (nI_eq (by omega) (by omega)).mpr c8
                  exact absurd rfl c8
                · replace c8 := (nI_eq (by omega) (by omega)).mp c8
                  refine lv_aload_n hx hb d_M_party_58 rfl (lv_at hl 0 rfl) ?_
                  refine va_get (D := (dC, dI)) (ci := 1) (v := .ref (ad 4)) (C := "ClearingBooksModel") (T := T_M) (N := 13) hx hb hts wi_M hown hK hP 0 rfl rfl 5 (by decide) (hts _ kw_278) (fun _ h9 => h9) rfl d_M_party_59 ?_
                  refine lv_iload_n hx hb d_M_party_62 rfl (lv_at hl 1 rfl) ?_
                  refine xa_laload (f := se) hx hb hK hP 4 1 rfl rfl (j := i) (by omega) (by decide) d_M_party_63 ?_
                  refine lv_goto (tgt := 89) hx hb d_M_party_64 (by decide) ?_
                  exact W.lret (v := se i) hx hb hr (fun t ht hW => ⟨⟨se i, (), rfl, rfl, by rw [ht]; exact hP, va_K.moved hW.alike hK, hD⟩, hS.F ht⟩) hS.2.2 d_M_party_89
              · exact absurd c7 (by decide)
          · exact absurd c5 (by decide)
set_option maxHeartbeats 4000000 in
set_option maxRecDepth 100000 in
theorem m_party_y2 (l : Launch) (dC : Nat → ClassId) (dI : Nat → Nat → Nat) (ad : Nat → Nat) (cI cJ : ClassId) (cd n tc : Nat) (ki ra : Nat → Int32) (po se : Nat → Int64) (bc : Nat → Int32) (bs op : Nat → Int64) (pr pe : Nat → Int32) (pm : Nat → Int64) (sz : Nat) (i : Nat) (hi : i < n) (hn : n ≤ 15) : Met l y_M_party (.code y_M_party b_M_party 5 (some .long) :: wAll) ({ frames := 1, cells := 0, slots := 0, locals := 21 } : Room) (mu_P [.ref (ad 0), .int (nI i), .int (nI 2)] (dC, dI) vwCl [(cI, .int), (cJ, .long)] (md_w ad cI cJ cd n tc ki ra po se bc bs op pr pe pm) sz) (va_Ql (fun (z : Int64) (_ : Unit) => z = (ki i).toInt64) (mu_B (dC, dI) vwCl [(cI, .int), (cJ, .long)] (va_A (md_w ad cI cJ cd n tc ki ra po se bc bs op pr pe pm) sz) (md_w ad cI cJ 0 n tc ki ra po se bc bs op pr pe pm)) (va_A (md_w ad cI cJ cd n tc ki ra po se bc bs op pr pe pm) sz)) 0 0 (va_A (md_w ad cI cJ cd n tc ki ra po se bc bs op pr pe pm) sz) := by
  refine Met.ofW (cc := b_M_party) (maxL := 5) (ret := (some .long)) (by decide) rfl ?_
  intro p e s m args below meth c s₁ B hml hv
  obtain ⟨rfl, hsz, hP, hK, hD0⟩ := hv
  have hx := B.exec
  have hb := B.bytes
  have hr := B.returns
  have hts0 := atoms_spec (ws := (.code y_M_party b_M_party 5 (some .long) :: wAll)) B.pre
  have hts := hts_all hts0
  have hown : s.vm.findClass "ClearingBooksModel" = some m.cls := findClass_of_methodNamed B.named
  have hlocks := B.notSynchronized
  subst hsz
  have hD := hD0.self (sz := s.heap.size)
  generalize hAe : va_A (md_w ad cI cJ cd n tc ki ra po se bc bs op pr pe pm) s.heap.size = A at hD ⊢
  have hA : ∀ q : Nat, s.heap.size ≤ q → A q := fun q h => by rw [← hAe]; exact Or.inr h
  have hS : va_S A s.heap s.heap [] := va_S.rf
  have hl := lv_entry ([.ref (ad 0), .int (nI i), .int (nI 2)]) (n := 5) (Nat.le_of_ble_eq_true rfl)
  rw [lg_entry_eq]
  generalize (lg_sl ([.ref (ad 0), .int (nI i), .int (nI 2)]) ++ List.replicate (5 - (lg_sl ([.ref (ad 0), .int (nI i), .int (nI 2)])).length) Slot.unset).toArray = ls at hl ⊢
  have hl : lv_has ls 5 [(0, .ref (ad 0)), (1, .int (nI i)), (2, .int (nI 2))] := hl
  refine lv_aload_n hx hb d_M_party_0 rfl (lv_at hl 0 rfl) ?_
  refine lv_iload_n hx hb d_M_party_1 rfl (lv_at hl 1 rfl) ?_
  refine lv_if_lt (tgt := 26) hx hb d_M_party_2 (by decide) (fun c1 => ?_) (fun c1 => ?_)
  · exact absurd c1 (nI_pos (by omega))
  · refine lv_iload_n hx hb d_M_party_5 rfl (lv_at hl 1 rfl) ?_
    refine lv_aload_n hx hb d_M_party_6 rfl (lv_at hl 0 rfl) ?_
    refine va_get (D := (dC, dI)) (ci := 1) (v := .int (nI n)) (C := "ClearingBooksModel") (T := T_M) (N := 13) hx hb hts wi_M hown hK hP 0 rfl rfl 1 (by decide) (hts _ kw_274) (fun _ h9 => h9) rfl d_M_party_7 ?_
    refine lv_icmp_ge (tgt := 26) hx hb d_M_party_10 (by decide) (fun c2 => ?_) (fun c2 => ?_)
    · replace c2 := (nI_leI (by omega) (by omega)).mp c2
      exfalso; omega
    · replace c2 := mt (nI_leI (by omega) (by omega)).mpr c2
      refine lv_iload_n hx hb d_M_party_13 rfl (lv_at hl 2 rfl) ?_
      refine lv_if_lt (tgt := 26) hx hb d_M_party_14 (by decide) (fun c3 => ?_) (fun c3 => ?_)
      · exact absurd c3 (by decide)
      · refine lv_iload_n hx hb d_M_party_17 rfl (lv_at hl 2 rfl) ?_
        refine lv_iconst (v := nI 4) hx hb d_M_party_18 (by decide) ?_
        refine lv_icmp_gt (tgt := 26) hx hb d_M_party_19 (by decide) (fun c4 => ?_) (fun c4 => ?_)
        · replace c4 := (nI_ltI (by omega) (by omega)).mp c4
          exfalso; omega
        · replace c4 := mt (nI_ltI (by omega) (by omega)).mpr c4
          refine lv_iconst (v := nI 1) hx hb d_M_party_22 (by decide) ?_
          refine lv_goto (tgt := 27) hx hb d_M_party_23 (by decide) ?_
          refine mu_calli (va_runV (As := [.int (nI 1)]) (rest := []) ⟨hx, hb, hml, hown, hts⟩ (m_goes_y l dC dI ad cI cJ cd n tc ki ra po se bc bs op pr pe pm _ ) (cwV 1 hts (wAll_v kw_338 kw_340 ks_12 kw_2 kw_341) rfl rfl rfl (by decide +kernel) ⟨Nat.le_of_ble_eq_true rfl, Nat.le_of_ble_eq_true rfl⟩) (mu_preV hK hP hD (ci := 1) (q0 := 0) rfl rfl) rfl rfl hl.1 rfl (lv_room (Nat.le_of_ble_eq_true rfl)) d_M_party_27 ⟨Nat.le_of_ble_eq_true rfl, Nat.le_of_ble_eq_true rfl⟩) hD hS hA (fun r H locs hq hP hD hS => ?_)
          obtain rfl := hq
          have hP : va_P (dC, dI) vwCl (md_w ad cI cJ 0 n tc ki ra po se bc bs op pr pe pm) H := hP
          have hD : va_D A (md_w ad cI cJ 0 n tc ki ra po se bc bs op pr pe pm) := hD
          refine lv_if_ne (tgt := 35) hx hb d_M_party_30 (by decide) (fun c5 => ?_) (fun c5 => ?_)
          · refine lv_iload_n hx hb d_M_party_35 rfl (lv_at hl 2 rfl) ?_
            refine lv_iconst (v := nI 4) hx hb d_M_party_36 (by decide) ?_
            refine lv_icmp_ge (tgt := 90) hx hb d_M_party_37 (by decide) (fun c6 => ?_) (fun c6 => ?_)
            · replace c6 := (nI_leI (by omega) (by omega)).mp c6
              exfalso; omega
            · replace c6 := mt (nI_leI (by omega) (by omega)).mpr c6
              refine lv_iload_n hx hb d_M_party_40 rfl (lv_at hl 2 rfl) ?_
              refine lv_if_ne (tgt := 53) hx hb d_M_party_41 (by decide) (fun c7 => ?_) (fun c7 => ?_)
              · refine lv_iload_n hx hb d_M_party_53 rfl (lv_at hl 2 rfl) ?_
                refine lv_iconst (v := nI 1) hx hb d_M_party_54 (by decide) ?_
                refine lv_icmp_ne (tgt := 67) hx hb d_M_party_55 (by decide) (fun c8 => ?_) (fun c8 => ?_)
                · replace c8 := mt (nI_eq (by omega) (by omega)).mpr c8
                  refine lv_iload_n hx hb d_M_party_67 rfl (lv_at hl 2 rfl) ?_
                  refine lv_iconst (v := nI 2) hx hb d_M_party_68 (by decide) ?_
                  refine lv_icmp_ne (tgt := 82) hx hb d_M_party_69 (by decide) (fun c9 => ?_) (fun c9 => ?_)
                  · replace c9 := mt (nI_eq (by omega) (by omega)).mpr c9
                    exact absurd rfl c9
                  · replace c9 := (nI_eq (by omega) (by omega)).mp c9
                    refine lv_aload_n hx hb d_M_party_72 rfl (lv_at hl 0 rfl) ?_
                    refine va_get (D := (dC, dI)) (ci := 1) (v := .ref (ad 1)) (C := "ClearingBooksModel") (T := T_M) (N := 13) hx hb hts wi_M hown hK hP 0 rfl rfl 2 (by decide) (hts _ kw_275) (fun _ h9 => h9) rfl d_M_party_73 ?_
                    refine lv_iload_n hx hb d_M_party_76 rfl (lv_at hl 1 rfl) ?_
                    refine xa_iaload (f := ki) hx hb hK hP 1 0 rfl rfl (j := i) (by omega) (by decide) d_M_party_77 ?_
                    refine lv_i2l (v := (ki i).toInt64) hx hb d_M_party_78 rfl ?_
                    refine lv_goto (tgt := 89) hx hb d_M_party_79 (by decide) ?_
                    exact W.lret (v := (ki i).toInt64) hx hb hr (fun t ht hW => ⟨⟨(ki i).toInt64, (), rfl, rfl, by rw [ht]; exact hP, va_K.moved hW.alike hK, hD⟩, hS.F ht⟩) hS.2.2 d_M_party_89
                · replace c8 := (nI_eq (by omega) (by omega)).mp c8
                  exfalso; omega
              · exact absurd c7 (by decide)
          · exact absurd c5 (by decide)
set_option maxHeartbeats 4000000 in
set_option maxRecDepth 100000 in
theorem m_party_y3 (l : Launch) (dC : Nat → ClassId) (dI : Nat → Nat → Nat) (ad : Nat → Nat) (cI cJ : ClassId) (cd n tc : Nat) (ki ra : Nat → Int32) (po se : Nat → Int64) (bc : Nat → Int32) (bs op : Nat → Int64) (pr pe : Nat → Int32) (pm : Nat → Int64) (sz : Nat) (i : Nat) (hi : i < n) (hn : n ≤ 15) : Met l y_M_party (.code y_M_party b_M_party 5 (some .long) :: wAll) ({ frames := 1, cells := 0, slots := 0, locals := 21 } : Room) (mu_P [.ref (ad 0), .int (nI i), .int (nI 3)] (dC, dI) vwCl [(cI, .int), (cJ, .long)] (md_w ad cI cJ cd n tc ki ra po se bc bs op pr pe pm) sz) (va_Ql (fun (z : Int64) (_ : Unit) => z = (ra i).toInt64) (mu_B (dC, dI) vwCl [(cI, .int), (cJ, .long)] (va_A (md_w ad cI cJ cd n tc ki ra po se bc bs op pr pe pm) sz) (md_w ad cI cJ 0 n tc ki ra po se bc bs op pr pe pm)) (va_A (md_w ad cI cJ cd n tc ki ra po se bc bs op pr pe pm) sz)) 0 0 (va_A (md_w ad cI cJ cd n tc ki ra po se bc bs op pr pe pm) sz) := by
  refine Met.ofW (cc := b_M_party) (maxL := 5) (ret := (some .long)) (by decide) rfl ?_
  intro p e s m args below meth c s₁ B hml hv
  obtain ⟨rfl, hsz, hP, hK, hD0⟩ := hv
  have hx := B.exec
  have hb := B.bytes
  have hr := B.returns
  have hts0 := atoms_spec (ws := (.code y_M_party b_M_party 5 (some .long) :: wAll)) B.pre
  have hts := hts_all hts0
  have hown : s.vm.findClass "ClearingBooksModel" = some m.cls := findClass_of_methodNamed B.named
  have hlocks := B.notSynchronized
  subst hsz
  have hD := hD0.self (sz := s.heap.size)
  generalize hAe : va_A (md_w ad cI cJ cd n tc ki ra po se bc bs op pr pe pm) s.heap.size = A at hD ⊢
  have hA : ∀ q : Nat, s.heap.size ≤ q → A q := fun q h => by rw [← hAe]; exact Or.inr h
  have hS : va_S A s.heap s.heap [] := va_S.rf
  have hl := lv_entry ([.ref (ad 0), .int (nI i), .int (nI 3)]) (n := 5) (Nat.le_of_ble_eq_true rfl)
  rw [lg_entry_eq]
  generalize (lg_sl ([.ref (ad 0), .int (nI i), .int (nI 3)]) ++ List.replicate (5 - (lg_sl ([.ref (ad 0), .int (nI i), .int (nI 3)])).length) Slot.unset).toArray = ls at hl ⊢
  have hl : lv_has ls 5 [(0, .ref (ad 0)), (1, .int (nI i)), (2, .int (nI 3))] := hl
  refine lv_aload_n hx hb d_M_party_0 rfl (lv_at hl 0 rfl) ?_
  refine lv_iload_n hx hb d_M_party_1 rfl (lv_at hl 1 rfl) ?_
  refine lv_if_lt (tgt := 26) hx hb d_M_party_2 (by decide) (fun c1 => ?_) (fun c1 => ?_)
  · exact absurd c1 (nI_pos (by omega))
  · refine lv_iload_n hx hb d_M_party_5 rfl (lv_at hl 1 rfl) ?_
    refine lv_aload_n hx hb d_M_party_6 rfl (lv_at hl 0 rfl) ?_
    refine va_get (D := (dC, dI)) (ci := 1) (v := .int (nI n)) (C := "ClearingBooksModel") (T := T_M) (N := 13) hx hb hts wi_M hown hK hP 0 rfl rfl 1 (by decide) (hts _ kw_274) (fun _ h9 => h9) rfl d_M_party_7 ?_
    refine lv_icmp_ge (tgt := 26) hx hb d_M_party_10 (by decide) (fun c2 => ?_) (fun c2 => ?_)
    · replace c2 := (nI_leI (by omega) (by omega)).mp c2
      exfalso; omega
    · replace c2 := mt (nI_leI (by omega) (by omega)).mpr c2
      refine lv_iload_n hx hb d_M_party_13 rfl (lv_at hl 2 rfl) ?_
      refine lv_if_lt (tgt := 26) hx hb d_M_party_14 (by decide) (fun c3 => ?_) (fun c3 => ?_)
      · exact absurd c3 (by decide)
      · refine lv_iload_n hx hb d_M_party_17 rfl (lv_at hl 2 rfl) ?_
        refine lv_iconst (v := nI 4) hx hb d_M_party_18 (by decide) ?_
        refine lv_icmp_gt (tgt := 26) hx hb d_M_party_19 (by decide) (fun c4 => ?_) (fun c4 => ?_)
        · replace c4 := (nI_ltI (by omega) (by omega)).mp c4
          exfalso; omega
        · replace c4 := mt (nI_ltI (by omega) (by omega)).mpr c4
          refine lv_iconst (v := nI 1) hx hb d_M_party_22 (by decide) ?_
          refine lv_goto (tgt := 27) hx hb d_M_party_23 (by decide) ?_
          refine mu_calli (va_runV (As := [.int (nI 1)]) (rest := []) ⟨hx, hb, hml, hown, hts⟩ (m_goes_y l dC dI ad cI cJ cd n tc ki ra po se bc bs op pr pe pm _ ) (cwV 1 hts (wAll_v kw_338 kw_340 ks_12 kw_2 kw_341) rfl rfl rfl (by decide +kernel) ⟨Nat.le_of_ble_eq_true rfl, Nat.le_of_ble_eq_true rfl⟩) (mu_preV hK hP hD (ci := 1) (q0 := 0) rfl rfl) rfl rfl hl.1 rfl (lv_room (Nat.le_of_ble_eq_true rfl)) d_M_party_27 ⟨Nat.le_of_ble_eq_true rfl, Nat.le_of_ble_eq_true rfl⟩) hD hS hA (fun r H locs hq hP hD hS => ?_)
          obtain rfl := hq
          have hP : va_P (dC, dI) vwCl (md_w ad cI cJ 0 n tc ki ra po se bc bs op pr pe pm) H := hP
          have hD : va_D A (md_w ad cI cJ 0 n tc ki ra po se bc bs op pr pe pm) := hD
          refine lv_if_ne (tgt := 35) hx hb d_M_party_30 (by decide) (fun c5 => ?_) (fun c5 => ?_)
          · refine lv_iload_n hx hb d_M_party_35 rfl (lv_at hl 2 rfl) ?_
            refine lv_iconst (v := nI 4) hx hb d_M_party_36 (by decide) ?_
            refine lv_icmp_ge (tgt := 90) hx hb d_M_party_37 (by decide) (fun c6 => ?_) (fun c6 => ?_)
            · replace c6 := (nI_leI (by omega) (by omega)).mp c6
              exfalso; omega
            · replace c6 := mt (nI_leI (by omega) (by omega)).mpr c6
              refine lv_iload_n hx hb d_M_party_40 rfl (lv_at hl 2 rfl) ?_
              refine lv_if_ne (tgt := 53) hx hb d_M_party_41 (by decide) (fun c7 => ?_) (fun c7 => ?_)
              · refine lv_iload_n hx hb d_M_party_53 rfl (lv_at hl 2 rfl) ?_
                refine lv_iconst (v := nI 1) hx hb d_M_party_54 (by decide) ?_
                refine lv_icmp_ne (tgt := 67) hx hb d_M_party_55 (by decide) (fun c8 => ?_) (fun c8 => ?_)
                · replace c8 := mt (nI_eq (by omega) (by omega)).mpr c8
                  refine lv_iload_n hx hb d_M_party_67 rfl (lv_at hl 2 rfl) ?_
                  refine lv_iconst (v := nI 2) hx hb d_M_party_68 (by decide) ?_
                  refine lv_icmp_ne (tgt := 82) hx hb d_M_party_69 (by decide) (fun c9 => ?_) (fun c9 => ?_)
                  · replace c9 := mt (nI_eq (by omega) (by omega)).mpr c9
                    refine lv_aload_n hx hb d_M_party_82 rfl (lv_at hl 0 rfl) ?_
                    refine va_get (D := (dC, dI)) (ci := 1) (v := .ref (ad 2)) (C := "ClearingBooksModel") (T := T_M) (N := 13) hx hb hts wi_M hown hK hP 0 rfl rfl 3 (by decide) (hts _ kw_276) (fun _ h9 => h9) rfl d_M_party_83 ?_
                    refine lv_iload_n hx hb d_M_party_86 rfl (lv_at hl 1 rfl) ?_
                    refine xa_iaload (f := ra) hx hb hK hP 2 0 rfl rfl (j := i) (by omega) (by decide) d_M_party_87 ?_
                    refine lv_i2l (v := (ra i).toInt64) hx hb d_M_party_88 rfl ?_
                    exact W.lret (v := (ra i).toInt64) hx hb hr (fun t ht hW => ⟨⟨(ra i).toInt64, (), rfl, rfl, by rw [ht]; exact hP, va_K.moved hW.alike hK, hD⟩, hS.F ht⟩) hS.2.2 d_M_party_89
                  · replace c9 := (nI_eq (by omega) (by omega)).mp c9
                    exfalso; omega
                · replace c8 := (nI_eq (by omega) (by omega)).mp c8
                  exfalso; omega
              · exact absurd c7 (by decide)
          · exact absurd c5 (by decide)
set_option maxHeartbeats 4000000 in
set_option maxRecDepth 100000 in
theorem m_party_y4 (l : Launch) (dC : Nat → ClassId) (dI : Nat → Nat → Nat) (ad : Nat → Nat) (cI cJ : ClassId) (cd n tc : Nat) (ki ra : Nat → Int32) (po se : Nat → Int64) (bc : Nat → Int32) (bs op : Nat → Int64) (pr pe : Nat → Int32) (pm : Nat → Int64) (sz : Nat) (i : Nat) (hi : i < n) (hn : n ≤ 15) : Met l y_M_party (.code y_M_party b_M_party 5 (some .long) :: wAll) ({ frames := 1, cells := 0, slots := 0, locals := 21 } : Room) (mu_P [.ref (ad 0), .int (nI i), .int (nI 4)] (dC, dI) vwCl [(cI, .int), (cJ, .long)] (md_w ad cI cJ cd n tc ki ra po se bc bs op pr pe pm) sz) (va_Ql (fun (z : Int64) (_ : Unit) => z = (nI (pl po i n)).toInt64) (mu_B (dC, dI) vwCl [(cI, .int), (cJ, .long)] (va_A (md_w ad cI cJ cd n tc ki ra po se bc bs op pr pe pm) sz) (md_w ad cI cJ 0 n tc ki ra po se bc bs op pr pe pm)) (va_A (md_w ad cI cJ cd n tc ki ra po se bc bs op pr pe pm) sz)) 0 0 (va_A (md_w ad cI cJ cd n tc ki ra po se bc bs op pr pe pm) sz) := by
  refine Met.ofW (cc := b_M_party) (maxL := 5) (ret := (some .long)) (by decide) rfl ?_
  intro p e s m args below meth c s₁ B hml hv
  obtain ⟨rfl, hsz, hP, hK, hD0⟩ := hv
  have hx := B.exec
  have hb := B.bytes
  have hr := B.returns
  have hts0 := atoms_spec (ws := (.code y_M_party b_M_party 5 (some .long) :: wAll)) B.pre
  have hts := hts_all hts0
  have hown : s.vm.findClass "ClearingBooksModel" = some m.cls := findClass_of_methodNamed B.named
  have hlocks := B.notSynchronized
  subst hsz
  have hD := hD0.self (sz := s.heap.size)
  generalize hAe : va_A (md_w ad cI cJ cd n tc ki ra po se bc bs op pr pe pm) s.heap.size = A at hD ⊢
  have hA : ∀ q : Nat, s.heap.size ≤ q → A q := fun q h => by rw [← hAe]; exact Or.inr h
  have hS : va_S A s.heap s.heap [] := va_S.rf
  have hl := lv_entry ([.ref (ad 0), .int (nI i), .int (nI 4)]) (n := 5) (Nat.le_of_ble_eq_true rfl)
  rw [lg_entry_eq]
  generalize (lg_sl ([.ref (ad 0), .int (nI i), .int (nI 4)]) ++ List.replicate (5 - (lg_sl ([.ref (ad 0), .int (nI i), .int (nI 4)])).length) Slot.unset).toArray = ls at hl ⊢
  have hl : lv_has ls 5 [(0, .ref (ad 0)), (1, .int (nI i)), (2, .int (nI 4))] := hl
  refine lv_aload_n hx hb d_M_party_0 rfl (lv_at hl 0 rfl) ?_
  refine lv_iload_n hx hb d_M_party_1 rfl (lv_at hl 1 rfl) ?_
  refine lv_if_lt (tgt := 26) hx hb d_M_party_2 (by decide) (fun c1 => ?_) (fun c1 => ?_)
  · exact absurd c1 (nI_pos (by omega))
  · refine lv_iload_n hx hb d_M_party_5 rfl (lv_at hl 1 rfl) ?_
    refine lv_aload_n hx hb d_M_party_6 rfl (lv_at hl 0 rfl) ?_
    refine va_get (D := (dC, dI)) (ci := 1) (v := .int (nI n)) (C := "ClearingBooksModel") (T := T_M) (N := 13) hx hb hts wi_M hown hK hP 0 rfl rfl 1 (by decide) (hts _ kw_274) (fun _ h9 => h9) rfl d_M_party_7 ?_
    refine lv_icmp_ge (tgt := 26) hx hb d_M_party_10 (by decide) (fun c2 => ?_) (fun c2 => ?_)
    · replace c2 := (nI_leI (by omega) (by omega)).mp c2
      exfalso; omega
    · replace c2 := mt (nI_leI (by omega) (by omega)).mpr c2
      refine lv_iload_n hx hb d_M_party_13 rfl (lv_at hl 2 rfl) ?_
      refine lv_if_lt (tgt := 26) hx hb d_M_party_14 (by decide) (fun c3 => ?_) (fun c3 => ?_)
      · exact absurd c3 (by decide)
      · refine lv_iload_n hx hb d_M_party_17 rfl (lv_at hl 2 rfl) ?_
        refine lv_iconst (v := nI 4) hx hb d_M_party_18 (by decide) ?_
        refine lv_icmp_gt (tgt := 26) hx hb d_M_party_19 (by decide) (fun c4 => ?_) (fun c4 => ?_)
        · replace c4 := (nI_ltI (by omega) (by omega)).mp c4
          exfalso; omega
        · replace c4 := mt (nI_ltI (by omega) (by omega)).mpr c4
          refine lv_iconst (v := nI 1) hx hb d_M_party_22 (by decide) ?_
          refine lv_goto (tgt := 27) hx hb d_M_party_23 (by decide) ?_
          refine mu_calli (va_runV (As := [.int (nI 1)]) (rest := []) ⟨hx, hb, hml, hown, hts⟩ (m_goes_y l dC dI ad cI cJ cd n tc ki ra po se bc bs op pr pe pm _ ) (cwV 1 hts (wAll_v kw_338 kw_340 ks_12 kw_2 kw_341) rfl rfl rfl (by decide +kernel) ⟨Nat.le_of_ble_eq_true rfl, Nat.le_of_ble_eq_true rfl⟩) (mu_preV hK hP hD (ci := 1) (q0 := 0) rfl rfl) rfl rfl hl.1 rfl (lv_room (Nat.le_of_ble_eq_true rfl)) d_M_party_27 ⟨Nat.le_of_ble_eq_true rfl, Nat.le_of_ble_eq_true rfl⟩) hD hS hA (fun r H locs hq hP hD hS => ?_)
          obtain rfl := hq
          have hP : va_P (dC, dI) vwCl (md_w ad cI cJ 0 n tc ki ra po se bc bs op pr pe pm) H := hP
          have hD : va_D A (md_w ad cI cJ 0 n tc ki ra po se bc bs op pr pe pm) := hD
          refine lv_if_ne (tgt := 35) hx hb d_M_party_30 (by decide) (fun c5 => ?_) (fun c5 => ?_)
          · refine lv_iload_n hx hb d_M_party_35 rfl (lv_at hl 2 rfl) ?_
            refine lv_iconst (v := nI 4) hx hb d_M_party_36 (by decide) ?_
            refine lv_icmp_ge (tgt := 90) hx hb d_M_party_37 (by decide) (fun c6 => ?_) (fun c6 => ?_)
            · replace c6 := (nI_leI (by omega) (by omega)).mp c6
              refine lv_iconst (v := nI 0) hx hb d_M_party_90 (by decide) ?_
              refine lv_istore_n (lv' := [(3, .int (nI 0)), (0, .ref (ad 0)), (1, .int (nI i)), (2, .int (nI 4))]) hx hb d_M_party_91 rfl hl (by decide) rfl (fun ls hl => ?_)
              refine lv_iconst (v := nI 0) hx hb d_M_party_92 (by decide) ?_
              refine lv_istore (lv' := [(4, .int (nI 0)), (3, .int (nI 0)), (0, .ref (ad 0)), (1, .int (nI i)), (2, .int (nI 4))]) hx hb d_M_party_93 hl (by decide) rfl (fun ls hl => ?_)
              have loop : ∀ (k q : Nat) (ls : Array Slot), q + k = n → lv_has ls 5 [(0, .ref (ad 0)), (1, .int (nI i)), (3, .int (nI (pl po i q))), (4, .int (nI q))] → W p l e (headSpec (.code y_M_party b_M_party 5 (some .long) :: wAll) ({ frames := 1, cells := 0, slots := 0, locals := 21 } : Room)).room s m ([.ref (ad 0), .int (nI i), .int (nI 4)] : List Value).toArray below meth c H locs 0 0 (MQ below (va_Ql (fun (z : Int64) (_ : Unit) => z = (nI (pl po i n)).toInt64) (mu_B (dC, dI) vwCl [(cI, .int), (cJ, .long)] A (md_w ad cI cJ 0 n tc ki ra po se bc bs op pr pe pm)) A) ([.ref (ad 0), .int (nI i), .int (nI 4)] : List Value).toArray s 0 0 A) (F0 m 95 ls []) := by
                intro k
                induction k with
                | zero =>
                  intro q ls hq0 hl
                  have h9 := pl_le po i q
                  refine lv_iload hx hb d_M_party_95 (lv_at hl 3 rfl) ?_
                  refine lv_aload_n hx hb d_M_party_97 rfl (lv_at hl 0 rfl) ?_
                  refine va_get (D := (dC, dI)) (ci := 1) (v := .int (nI n)) (C := "ClearingBooksModel") (T := T_M) (N := 13) hx hb hts wi_M hown hK hP 0 rfl rfl 1 (by decide) (hts _ kw_274) (fun _ h9 => h9) rfl d_M_party_98 ?_
                  refine lv_icmp_ge (tgt := 158) hx hb d_M_party_101 (by decide) (fun c51 => ?_) (fun c51 => ?_)
                  · replace c51 := (nI_leI (by omega) (by omega)).mp c51
                    refine lv_iload_n hx hb d_M_party_158 rfl (lv_at hl 2 rfl) ?_
                    refine lv_i2l (v := (nI (pl po i q)).toInt64) hx hb d_M_party_159 rfl ?_
                    exact W.lret (v := (nI (pl po i q)).toInt64) hx hb hr (fun t ht hW => ⟨⟨(nI (pl po i q)).toInt64, (), rfl, by rw [show n = q by omega], by rw [ht]; exact hP, va_K.moved hW.alike hK, hD⟩, hS.F ht⟩) hS.2.2 d_M_party_160
                  · replace c51 := mt (nI_leI (by omega) (by omega)).mpr c51
                    exfalso; omega
                | succ k ih =>
                  intro q ls hq0 hl
                  have h9 := pl_le po i q
                  refine lv_iload hx hb d_M_party_95 (lv_at hl 3 rfl) ?_
                  refine lv_aload_n hx hb d_M_party_97 rfl (lv_at hl 0 rfl) ?_
                  refine va_get (D := (dC, dI)) (ci := 1) (v := .int (nI n)) (C := "ClearingBooksModel") (T := T_M) (N := 13) hx hb hts wi_M hown hK hP 0 rfl rfl 1 (by decide) (hts _ kw_274) (fun _ h9 => h9) rfl d_M_party_98 ?_
                  refine lv_icmp_ge (tgt := 158) hx hb d_M_party_101 (by decide) (fun c51 => ?_) (fun c51 => ?_)
                  · replace c51 := (nI_leI (by omega) (by omega)).mp c51
                    exfalso; omega
                  · replace c51 := mt (nI_leI (by omega) (by omega)).mpr c51
                    refine lv_iload_n hx hb d_M_party_104 rfl (lv_at hl 2 rfl) ?_
                    refine lv_aload_n hx hb d_M_party_105 rfl (lv_at hl 0 rfl) ?_
                    refine va_get (D := (dC, dI)) (ci := 1) (v := .ref (ad 3)) (C := "ClearingBooksModel") (T := T_M) (N := 13) hx hb hts wi_M hown hK hP 0 rfl rfl 4 (by decide) (hts _ kw_277) (fun _ h9 => h9) rfl d_M_party_106 ?_
                    refine lv_iload hx hb d_M_party_109 (lv_at hl 3 rfl) ?_
                    refine xa_laload (f := po) hx hb hK hP 3 1 rfl rfl (j := q) (by omega) (by decide) d_M_party_111 ?_
                    refine lv_aload_n hx hb d_M_party_112 rfl (lv_at hl 0 rfl) ?_
                    refine va_get (D := (dC, dI)) (ci := 1) (v := .ref (ad 3)) (C := "ClearingBooksModel") (T := T_M) (N := 13) hx hb hts wi_M hown hK hP 0 rfl rfl 4 (by decide) (hts _ kw_277) (fun _ h9 => h9) rfl d_M_party_113 ?_
                    refine lv_iload_n hx hb d_M_party_116 rfl (lv_at hl 1 rfl) ?_
                    refine xa_laload (f := po) hx hb hK hP 3 1 rfl rfl (j := i) (by omega) (by decide) d_M_party_117 ?_
                    refine W.lcmp hx hb d_M_party_118 ?_
                    refine lv_if_gt (tgt := 145) hx hb d_M_party_119 (by decide) (fun c52 => ?_) (fun c52 => ?_)
                    · replace c52 := (lg_cmp_gt _ _).mp c52
                      refine lv_iconst (v := nI 1) hx hb d_M_party_145 (by decide) ?_
                      refine lv_goto (tgt := 150) hx hb d_M_party_146 (by decide) ?_
                      refine t_iadd hx hb d_M_party_150 (v := nI ((pl po i q) + 1)) (nI_add (pl po i q) 1) ?_
                      refine lv_istore_n (lv' := [(3, .int (nI ((pl po i q) + 1))), (0, .ref (ad 0)), (1, .int (nI i)), (4, .int (nI q))]) hx hb d_M_party_151 rfl hl (by decide) rfl (fun ls hl => ?_)
                      refine lv_iinc (v := nI (q + 1)) (lv' := [(4, .int (nI (q + 1))), (3, .int (nI ((pl po i q) + 1))), (0, .ref (ad 0)), (1, .int (nI i))]) hx hb d_M_party_152 hl (k := 3) rfl (nI_1 q) (by decide) rfl (fun ls hl => ?_)
                      refine lv_goto (tgt := 95) hx hb d_M_party_155 (by decide) ?_
                      have hq : (po i < po q ∨ (po q = po i ∧ q < i)) := by first | exact Or.inl (by assumption) | exact Or.inr ⟨by assumption, by omega⟩ | (rintro (h8 | ⟨h8, h7⟩) <;> first | contradiction | omega)
                      exact ih (q + 1) ls (by omega) (by rw [pl_y hq]; exact lv_sub hl [2, 3, 1, 0] rfl)
                    · replace c52 := mt (lg_cmp_gt _ _).mpr c52
                      refine lv_aload_n hx hb d_M_party_122 rfl (lv_at hl 0 rfl) ?_
                      refine va_get (D := (dC, dI)) (ci := 1) (v := .ref (ad 3)) (C := "ClearingBooksModel") (T := T_M) (N := 13) hx hb hts wi_M hown hK hP 0 rfl rfl 4 (by decide) (hts _ kw_277) (fun _ h9 => h9) rfl d_M_party_123 ?_
                      refine lv_iload hx hb d_M_party_126 (lv_at hl 3 rfl) ?_
                      refine xa_laload (f := po) hx hb hK hP 3 1 rfl rfl (j := q) (by omega) (by decide) d_M_party_128 ?_
                      refine lv_aload_n hx hb d_M_party_129 rfl (lv_at hl 0 rfl) ?_
                      refine va_get (D := (dC, dI)) (ci := 1) (v := .ref (ad 3)) (C := "ClearingBooksModel") (T := T_M) (N := 13) hx hb hts wi_M hown hK hP 0 rfl rfl 4 (by decide) (hts _ kw_277) (fun _ h9 => h9) rfl d_M_party_130 ?_
                      refine lv_iload_n hx hb d_M_party_133 rfl (lv_at hl 1 rfl) ?_
                      refine xa_laload (f := po) hx hb hK hP 3 1 rfl rfl (j := i) (by omega) (by decide) d_M_party_134 ?_
                      refine W.lcmp hx hb d_M_party_135 ?_
                      refine lv_if_ne (tgt := 149) hx hb d_M_party_136 (by decide) (fun c53 => ?_) (fun c53 => ?_)
                      · replace c53 := mt (lg_cmp_eq _ _).mpr c53
                        refine lv_iconst (v := nI 0) hx hb d_M_party_149 (by decide) ?_
                        refine t_iadd hx hb d_M_party_150 (v := nI ((pl po i q) + 0)) (nI_add (pl po i q) 0) ?_
                        refine lv_istore_n (lv' := [(3, .int (nI ((pl po i q) + 0))), (0, .ref (ad 0)), (1, .int (nI i)), (4, .int (nI q))]) hx hb d_M_party_151 rfl hl (by decide) rfl (fun ls hl => ?_)
                        refine lv_iinc (v := nI (q + 1)) (lv' := [(4, .int (nI (q + 1))), (3, .int (nI ((pl po i q) + 0))), (0, .ref (ad 0)), (1, .int (nI i))]) hx hb d_M_party_152 hl (k := 3) rfl (nI_1 q) (by decide) rfl (fun ls hl => ?_)
                        refine lv_goto (tgt := 95) hx hb d_M_party_155 (by decide) ?_
                        have hq : ¬ (po i < po q ∨ (po q = po i ∧ q < i)) := by first | exact Or.inl (by assumption) | exact Or.inr ⟨by assumption, by omega⟩ | (rintro (h8 | ⟨h8, h7⟩) <;> first | contradiction | omega)
                        exact ih (q + 1) ls (by omega) (by rw [pl_n hq]; exact lv_sub hl [2, 3, 1, 0] rfl)
                      · replace c53 := (lg_cmp_eq _ _).mp c53
                        refine lv_iload hx hb d_M_party_139 (lv_at hl 3 rfl) ?_
                        refine lv_iload_n hx hb d_M_party_141 rfl (lv_at hl 1 rfl) ?_
                        refine lv_icmp_ge (tgt := 149) hx hb d_M_party_142 (by decide) (fun c54 => ?_) (fun c54 => ?_)
                        · replace c54 := (nI_leI (by omega) (by omega)).mp c54
                          refine lv_iconst (v := nI 0) hx hb d_M_party_149 (by decide) ?_
                          refine t_iadd hx hb d_M_party_150 (v := nI ((pl po i q) + 0)) (nI_add (pl po i q) 0) ?_
                          refine lv_istore_n (lv' := [(3, .int (nI ((pl po i q) + 0))), (0, .ref (ad 0)), (1, .int (nI i)), (4, .int (nI q))]) hx hb d_M_party_151 rfl hl (by decide) rfl (fun ls hl => ?_)
                          refine lv_iinc (v := nI (q + 1)) (lv' := [(4, .int (nI (q + 1))), (3, .int (nI ((pl po i q) + 0))), (0, .ref (ad 0)), (1, .int (nI i))]) hx hb d_M_party_152 hl (k := 3) rfl (nI_1 q) (by decide) rfl (fun ls hl => ?_)
                          refine lv_goto (tgt := 95) hx hb d_M_party_155 (by decide) ?_
                          have hq : ¬ (po i < po q ∨ (po q = po i ∧ q < i)) := by first | exact Or.inl (by assumption) | exact Or.inr ⟨by assumption, by omega⟩ | (rintro (h8 | ⟨h8, h7⟩) <;> first | contradiction | omega)
                          exact ih (q + 1) ls (by omega) (by rw [pl_n hq]; exact lv_sub hl [2, 3, 1, 0] rfl)
                        · replace c54 := mt (nI_leI (by omega) (by omega)).mpr c54
                          refine lv_iconst (v := nI 1) hx hb d_M_party_145 (by decide) ?_
                          refine lv_goto (tgt := 150) hx hb d_M_party_146 (by decide) ?_
                          refine t_iadd hx hb d_M_party_150 (v := nI ((pl po i q) + 1)) (nI_add (pl po i q) 1) ?_
                          refine lv_istore_n (lv' := [(3, .int (nI ((pl po i q) + 1))), (0, .ref (ad 0)), (1, .int (nI i)), (4, .int (nI q))]) hx hb d_M_party_151 rfl hl (by decide) rfl (fun ls hl => ?_)
                          refine lv_iinc (v := nI (q + 1)) (lv' := [(4, .int (nI (q + 1))), (3, .int (nI ((pl po i q) + 1))), (0, .ref (ad 0)), (1, .int (nI i))]) hx hb d_M_party_152 hl (k := 3) rfl (nI_1 q) (by decide) rfl (fun ls hl => ?_)
                          refine lv_goto (tgt := 95) hx hb d_M_party_155 (by decide) ?_
                          have hq : (po i < po q ∨ (po q = po i ∧ q < i)) := by first | exact Or.inl (by assumption) | exact Or.inr ⟨by assumption, by omega⟩ | (rintro (h8 | ⟨h8, h7⟩) <;> first | contradiction | omega)
                          exact ih (q + 1) ls (by omega) (by rw [pl_y hq]; exact lv_sub hl [2, 3, 1, 0] rfl)
              exact loop n 0 ls (by omega) (lv_sub hl [2, 3, 1, 0] rfl)
            · replace c6 := mt (nI_leI (by omega) (by omega)).mpr c6
              exfalso; omega
          · exact absurd c5 (by decide)
set_option maxHeartbeats 4000000 in
set_option maxRecDepth 100000 in
theorem m_party_tk (l : Launch) (dC : Nat → ClassId) (dI : Nat → Nat → Nat) (ad : Nat → Nat) (cI cJ : ClassId) (cd n tc : Nat) (ki ra : Nat → Int32) (po se : Nat → Int64) (bc : Nat → Int32) (bs op : Nat → Int64) (pr pe : Nat → Int32) (pm : Nat → Int64) (sz : Nat) (x k : Int32) (hno : ¬ (¬ x < 0 ∧ x < nI n)) : Met l y_M_party (.code y_M_party b_M_party 5 (some .long) :: wAll) ({ frames := 1, cells := 0, slots := 0, locals := 21 } : Room) (mu_P [.ref (ad 0), .int x, .int k] (dC, dI) vwCl [(cI, .int), (cJ, .long)] (md_w ad cI cJ cd n tc ki ra po se bc bs op pr pe pm) sz) (va_Ql (fun (z : Int64) (_ : Unit) => z = 0) (mu_B (dC, dI) vwCl [(cI, .int), (cJ, .long)] (va_A (md_w ad cI cJ cd n tc ki ra po se bc bs op pr pe pm) sz) (md_w ad cI cJ 1 n tc ki ra po se bc bs op pr pe pm)) (va_A (md_w ad cI cJ cd n tc ki ra po se bc bs op pr pe pm) sz)) 0 0 (va_A (md_w ad cI cJ cd n tc ki ra po se bc bs op pr pe pm) sz) := by
  refine Met.ofW (cc := b_M_party) (maxL := 5) (ret := (some .long)) (by decide) rfl ?_
  intro p e s m args below meth c s₁ B hml hv
  obtain ⟨rfl, hsz, hP, hK, hD0⟩ := hv
  have hx := B.exec
  have hb := B.bytes
  have hr := B.returns
  have hts0 := atoms_spec (ws := (.code y_M_party b_M_party 5 (some .long) :: wAll)) B.pre
  have hts := hts_all hts0
  have hown : s.vm.findClass "ClearingBooksModel" = some m.cls := findClass_of_methodNamed B.named
  have hlocks := B.notSynchronized
  subst hsz
  have hD := hD0.self (sz := s.heap.size)
  generalize hAe : va_A (md_w ad cI cJ cd n tc ki ra po se bc bs op pr pe pm) s.heap.size = A at hD ⊢
  have hA : ∀ q : Nat, s.heap.size ≤ q → A q := fun q h => by rw [← hAe]; exact Or.inr h
  have hS : va_S A s.heap s.heap [] := va_S.rf
  have hl := lv_entry ([.ref (ad 0), .int x, .int k]) (n := 5) (Nat.le_of_ble_eq_true rfl)
  rw [lg_entry_eq]
  generalize (lg_sl ([.ref (ad 0), .int x, .int k]) ++ List.replicate (5 - (lg_sl ([.ref (ad 0), .int x, .int k])).length) Slot.unset).toArray = ls at hl ⊢
  have hl : lv_has ls 5 [(0, .ref (ad 0)), (1, .int x), (2, .int k)] := hl
  refine lv_aload_n hx hb d_M_party_0 rfl (lv_at hl 0 rfl) ?_
  refine lv_iload_n hx hb d_M_party_1 rfl (lv_at hl 1 rfl) ?_
  refine lv_if_lt (tgt := 26) hx hb d_M_party_2 (by decide) (fun c1 => ?_) (fun c1 => ?_)
  · refine lv_iconst (v := nI 0) hx hb d_M_party_26 (by decide) ?_
    refine mu_calli (va_runV (As := [.int (nI 0)]) (rest := []) ⟨hx, hb, hml, hown, hts⟩ (m_goes_n l dC dI ad cI cJ cd n tc ki ra po se bc bs op pr pe pm _ ) (cwV 1 hts (wAll_v kw_338 kw_340 ks_12 kw_2 kw_341) rfl rfl rfl (by decide +kernel) ⟨Nat.le_of_ble_eq_true rfl, Nat.le_of_ble_eq_true rfl⟩) (mu_preV hK hP hD (ci := 1) (q0 := 0) rfl rfl) rfl rfl hl.1 rfl (lv_room (Nat.le_of_ble_eq_true rfl)) d_M_party_27 ⟨Nat.le_of_ble_eq_true rfl, Nat.le_of_ble_eq_true rfl⟩) hD hS hA (fun r H locs hq hP hD hS => ?_)
    obtain rfl := hq
    have hP : va_P (dC, dI) vwCl (md_w ad cI cJ 1 n tc ki ra po se bc bs op pr pe pm) H := hP
    have hD : va_D A (md_w ad cI cJ 1 n tc ki ra po se bc bs op pr pe pm) := hD
    refine lv_if_ne (tgt := 35) hx hb d_M_party_30 (by decide) (fun c2 => ?_) (fun c2 => ?_)
    · exact absurd rfl c2
    · refine lv_lconst (v := 0) hx hb d_M_party_33 (by decide) ?_
      exact W.lret (v := 0) hx hb hr (fun t ht hW => ⟨⟨0, (), rfl, rfl, by rw [ht]; exact hP, va_K.moved hW.alike hK, hD⟩, hS.F ht⟩) hS.2.2 d_M_party_34
  · refine lv_iload_n hx hb d_M_party_5 rfl (lv_at hl 1 rfl) ?_
    refine lv_aload_n hx hb d_M_party_6 rfl (lv_at hl 0 rfl) ?_
    refine va_get (D := (dC, dI)) (ci := 1) (v := .int (nI n)) (C := "ClearingBooksModel") (T := T_M) (N := 13) hx hb hts wi_M hown hK hP 0 rfl rfl 1 (by decide) (hts _ kw_274) (fun _ h9 => h9) rfl d_M_party_7 ?_
    refine lv_icmp_ge (tgt := 26) hx hb d_M_party_10 (by decide) (fun c3 => ?_) (fun c3 => ?_)
    · refine lv_iconst (v := nI 0) hx hb d_M_party_26 (by decide) ?_
      refine mu_calli (va_runV (As := [.int (nI 0)]) (rest := []) ⟨hx, hb, hml, hown, hts⟩ (m_goes_n l dC dI ad cI cJ cd n tc ki ra po se bc bs op pr pe pm _ ) (cwV 1 hts (wAll_v kw_338 kw_340 ks_12 kw_2 kw_341) rfl rfl rfl (by decide +kernel) ⟨Nat.le_of_ble_eq_true rfl, Nat.le_of_ble_eq_true rfl⟩) (mu_preV hK hP hD (ci := 1) (q0 := 0) rfl rfl) rfl rfl hl.1 rfl (lv_room (Nat.le_of_ble_eq_true rfl)) d_M_party_27 ⟨Nat.le_of_ble_eq_true rfl, Nat.le_of_ble_eq_true rfl⟩) hD hS hA (fun r H locs hq hP hD hS => ?_)
      obtain rfl := hq
      have hP : va_P (dC, dI) vwCl (md_w ad cI cJ 1 n tc ki ra po se bc bs op pr pe pm) H := hP
      have hD : va_D A (md_w ad cI cJ 1 n tc ki ra po se bc bs op pr pe pm) := hD
      refine lv_if_ne (tgt := 35) hx hb d_M_party_30 (by decide) (fun c4 => ?_) (fun c4 => ?_)
      · exact absurd rfl c4
      · refine lv_lconst (v := 0) hx hb d_M_party_33 (by decide) ?_
        exact W.lret (v := 0) hx hb hr (fun t ht hW => ⟨⟨0, (), rfl, rfl, by rw [ht]; exact hP, va_K.moved hW.alike hK, hD⟩, hS.F ht⟩) hS.2.2 d_M_party_34
    · exact absurd ⟨c1, Int32.not_le.mp c3⟩ hno
set_option maxHeartbeats 4000000 in
set_option maxRecDepth 100000 in
theorem m_party_tw (l : Launch) (dC : Nat → ClassId) (dI : Nat → Nat → Nat) (ad : Nat → Nat) (cI cJ : ClassId) (cd n tc : Nat) (ki ra : Nat → Int32) (po se : Nat → Int64) (bc : Nat → Int32) (bs op : Nat → Int64) (pr pe : Nat → Int32) (pm : Nat → Int64) (sz : Nat) (i : Nat) (k : Int32) (hi : i < n) (hn : n ≤ 15) (hw : k.toInt < 0 ∨ 4 < k.toInt) : Met l y_M_party (.code y_M_party b_M_party 5 (some .long) :: wAll) ({ frames := 1, cells := 0, slots := 0, locals := 21 } : Room) (mu_P [.ref (ad 0), .int (nI i), .int k] (dC, dI) vwCl [(cI, .int), (cJ, .long)] (md_w ad cI cJ cd n tc ki ra po se bc bs op pr pe pm) sz) (va_Ql (fun (z : Int64) (_ : Unit) => z = 0) (mu_B (dC, dI) vwCl [(cI, .int), (cJ, .long)] (va_A (md_w ad cI cJ cd n tc ki ra po se bc bs op pr pe pm) sz) (md_w ad cI cJ 1 n tc ki ra po se bc bs op pr pe pm)) (va_A (md_w ad cI cJ cd n tc ki ra po se bc bs op pr pe pm) sz)) 0 0 (va_A (md_w ad cI cJ cd n tc ki ra po se bc bs op pr pe pm) sz) := by
  refine Met.ofW (cc := b_M_party) (maxL := 5) (ret := (some .long)) (by decide) rfl ?_
  intro p e s m args below meth c s₁ B hml hv
  obtain ⟨rfl, hsz, hP, hK, hD0⟩ := hv
  have hx := B.exec
  have hb := B.bytes
  have hr := B.returns
  have hts0 := atoms_spec (ws := (.code y_M_party b_M_party 5 (some .long) :: wAll)) B.pre
  have hts := hts_all hts0
  have hown : s.vm.findClass "ClearingBooksModel" = some m.cls := findClass_of_methodNamed B.named
  have hlocks := B.notSynchronized
  subst hsz
  have hD := hD0.self (sz := s.heap.size)
  generalize hAe : va_A (md_w ad cI cJ cd n tc ki ra po se bc bs op pr pe pm) s.heap.size = A at hD ⊢
  have hA : ∀ q : Nat, s.heap.size ≤ q → A q := fun q h => by rw [← hAe]; exact Or.inr h
  have hS : va_S A s.heap s.heap [] := va_S.rf
  have hl := lv_entry ([.ref (ad 0), .int (nI i), .int k]) (n := 5) (Nat.le_of_ble_eq_true rfl)
  rw [lg_entry_eq]
  generalize (lg_sl ([.ref (ad 0), .int (nI i), .int k]) ++ List.replicate (5 - (lg_sl ([.ref (ad 0), .int (nI i), .int k])).length) Slot.unset).toArray = ls at hl ⊢
  have hl : lv_has ls 5 [(0, .ref (ad 0)), (1, .int (nI i)), (2, .int k)] := hl
  refine lv_aload_n hx hb d_M_party_0 rfl (lv_at hl 0 rfl) ?_
  refine lv_iload_n hx hb d_M_party_1 rfl (lv_at hl 1 rfl) ?_
  refine lv_if_lt (tgt := 26) hx hb d_M_party_2 (by decide) (fun c1 => ?_) (fun c1 => ?_)
  · exact absurd c1 (nI_pos (by omega))
  · refine lv_iload_n hx hb d_M_party_5 rfl (lv_at hl 1 rfl) ?_
    refine lv_aload_n hx hb d_M_party_6 rfl (lv_at hl 0 rfl) ?_
    refine va_get (D := (dC, dI)) (ci := 1) (v := .int (nI n)) (C := "ClearingBooksModel") (T := T_M) (N := 13) hx hb hts wi_M hown hK hP 0 rfl rfl 1 (by decide) (hts _ kw_274) (fun _ h9 => h9) rfl d_M_party_7 ?_
    refine lv_icmp_ge (tgt := 26) hx hb d_M_party_10 (by decide) (fun c2 => ?_) (fun c2 => ?_)
    · replace c2 := (nI_leI (by omega) (by omega)).mp c2
      exfalso; omega
    · replace c2 := mt (nI_leI (by omega) (by omega)).mpr c2
      refine lv_iload_n hx hb d_M_party_13 rfl (lv_at hl 2 rfl) ?_
      refine lv_if_lt (tgt := 26) hx hb d_M_party_14 (by decide) (fun c3 => ?_) (fun c3 => ?_)
      · refine lv_iconst (v := nI 0) hx hb d_M_party_26 (by decide) ?_
        refine mu_calli (va_runV (As := [.int (nI 0)]) (rest := []) ⟨hx, hb, hml, hown, hts⟩ (m_goes_n l dC dI ad cI cJ cd n tc ki ra po se bc bs op pr pe pm _ ) (cwV 1 hts (wAll_v kw_338 kw_340 ks_12 kw_2 kw_341) rfl rfl rfl (by decide +kernel) ⟨Nat.le_of_ble_eq_true rfl, Nat.le_of_ble_eq_true rfl⟩) (mu_preV hK hP hD (ci := 1) (q0 := 0) rfl rfl) rfl rfl hl.1 rfl (lv_room (Nat.le_of_ble_eq_true rfl)) d_M_party_27 ⟨Nat.le_of_ble_eq_true rfl, Nat.le_of_ble_eq_true rfl⟩) hD hS hA (fun r H locs hq hP hD hS => ?_)
        obtain rfl := hq
        have hP : va_P (dC, dI) vwCl (md_w ad cI cJ 1 n tc ki ra po se bc bs op pr pe pm) H := hP
        have hD : va_D A (md_w ad cI cJ 1 n tc ki ra po se bc bs op pr pe pm) := hD
        refine lv_if_ne (tgt := 35) hx hb d_M_party_30 (by decide) (fun c4 => ?_) (fun c4 => ?_)
        · exact absurd rfl c4
        · refine lv_lconst (v := 0) hx hb d_M_party_33 (by decide) ?_
          exact W.lret (v := 0) hx hb hr (fun t ht hW => ⟨⟨0, (), rfl, rfl, by rw [ht]; exact hP, va_K.moved hW.alike hK, hD⟩, hS.F ht⟩) hS.2.2 d_M_party_34
      · refine lv_iload_n hx hb d_M_party_17 rfl (lv_at hl 2 rfl) ?_
        refine lv_iconst (v := nI 4) hx hb d_M_party_18 (by decide) ?_
        refine lv_icmp_gt (tgt := 26) hx hb d_M_party_19 (by decide) (fun c5 => ?_) (fun c5 => ?_)
        · refine lv_iconst (v := nI 0) hx hb d_M_party_26 (by decide) ?_
          refine mu_calli (va_runV (As := [.int (nI 0)]) (rest := []) ⟨hx, hb, hml, hown, hts⟩ (m_goes_n l dC dI ad cI cJ cd n tc ki ra po se bc bs op pr pe pm _ ) (cwV 1 hts (wAll_v kw_338 kw_340 ks_12 kw_2 kw_341) rfl rfl rfl (by decide +kernel) ⟨Nat.le_of_ble_eq_true rfl, Nat.le_of_ble_eq_true rfl⟩) (mu_preV hK hP hD (ci := 1) (q0 := 0) rfl rfl) rfl rfl hl.1 rfl (lv_room (Nat.le_of_ble_eq_true rfl)) d_M_party_27 ⟨Nat.le_of_ble_eq_true rfl, Nat.le_of_ble_eq_true rfl⟩) hD hS hA (fun r H locs hq hP hD hS => ?_)
          obtain rfl := hq
          have hP : va_P (dC, dI) vwCl (md_w ad cI cJ 1 n tc ki ra po se bc bs op pr pe pm) H := hP
          have hD : va_D A (md_w ad cI cJ 1 n tc ki ra po se bc bs op pr pe pm) := hD
          refine lv_if_ne (tgt := 35) hx hb d_M_party_30 (by decide) (fun c6 => ?_) (fun c6 => ?_)
          · exact absurd rfl c6
          · refine lv_lconst (v := 0) hx hb d_M_party_33 (by decide) ?_
            exact W.lret (v := 0) hx hb hr (fun t ht hW => ⟨⟨0, (), rfl, rfl, by rw [ht]; exact hP, va_K.moved hW.alike hK, hD⟩, hS.F ht⟩) hS.2.2 d_M_party_34
        · exact absurd hw (tw_no (m := 4) (by decide) c3 c5)
set_option maxHeartbeats 4000000 in
set_option maxRecDepth 100000 in
theorem m_parties (l : Launch) (dC : Nat → ClassId) (dI : Nat → Nat → Nat) (ad : Nat → Nat) (cI cJ : ClassId) (cd n tc : Nat) (ki ra : Nat → Int32) (po se : Nat → Int64) (bc : Nat → Int32) (bs op : Nat → Int64) (pr pe : Nat → Int32) (pm : Nat → Int64) (sz : Nat)  : Met l y_M_parties (.code y_M_parties b_M_parties 1 (some .int) :: wAll) ({ frames := 0, cells := 0, slots := 0, locals := 0 } : Room) (mu_P [.ref (ad 0)] (dC, dI) vwCl [(cI, .int), (cJ, .long)] (md_w ad cI cJ cd n tc ki ra po se bc bs op pr pe pm) sz) (va_Qi (fun (z : Int32) (_ : Unit) => z = nI n) (mu_B (dC, dI) vwCl [(cI, .int), (cJ, .long)] (va_A (md_w ad cI cJ cd n tc ki ra po se bc bs op pr pe pm) sz) (md_w ad cI cJ 0 n tc ki ra po se bc bs op pr pe pm)) (va_A (md_w ad cI cJ cd n tc ki ra po se bc bs op pr pe pm) sz)) 0 0 (va_A (md_w ad cI cJ cd n tc ki ra po se bc bs op pr pe pm) sz) := by
  refine Met.ofW (cc := b_M_parties) (maxL := 1) (ret := (some .int)) (by decide) rfl ?_
  intro p e s m args below meth c s₁ B hml hv
  obtain ⟨rfl, hsz, hP, hK, hD0⟩ := hv
  have hx := B.exec
  have hb := B.bytes
  have hr := B.returns
  have hts0 := atoms_spec (ws := (.code y_M_parties b_M_parties 1 (some .int) :: wAll)) B.pre
  have hts := hts_all hts0
  have hown : s.vm.findClass "ClearingBooksModel" = some m.cls := findClass_of_methodNamed B.named
  have hlocks := B.notSynchronized
  subst hsz
  have hD := hD0.self (sz := s.heap.size)
  generalize hAe : va_A (md_w ad cI cJ cd n tc ki ra po se bc bs op pr pe pm) s.heap.size = A at hD ⊢
  have hA : ∀ q : Nat, s.heap.size ≤ q → A q := fun q h => by rw [← hAe]; exact Or.inr h
  have hS : va_S A s.heap s.heap [] := va_S.rf
  have hl := lv_entry ([.ref (ad 0)]) (n := 1) (Nat.le_of_ble_eq_true rfl)
  rw [lg_entry_eq]
  generalize (lg_sl ([.ref (ad 0)]) ++ List.replicate (1 - (lg_sl ([.ref (ad 0)])).length) Slot.unset).toArray = ls at hl ⊢
  have hl : lv_has ls 1 [(0, .ref (ad 0))] := hl
  refine lv_aload_n hx hb d_M_parties_0 rfl (lv_at hl 0 rfl) ?_
  refine lv_iconst (v := nI 0) hx hb d_M_parties_1 (by decide) ?_
  refine va_put (D := (dC, dI)) (ci := 1) (v := .int (nI 0)) (ty := .int) (C := "ClearingBooksModel") (T := T_M) (N := 13) hx hb hts wi_M ty_M tyok_M nm_M hown hK hP hD hS 0 rfl rfl 0 (by decide) (hts _ kw_273) (fun _ h9 => h9) rfl (by decide +kernel) rfl rfl (Nat.le_of_ble_eq_true rfl) d_M_parties_2 (fun H locs hP hD hS => ?_)
  have hP : va_P (dC, dI) vwCl (md_w ad cI cJ 0 n tc ki ra po se bc bs op pr pe pm) H := hP
  have hD : va_D A (md_w ad cI cJ 0 n tc ki ra po se bc bs op pr pe pm) := hD
  refine lv_aload_n hx hb d_M_parties_5 rfl (lv_at hl 0 rfl) ?_
  refine va_get (D := (dC, dI)) (ci := 1) (v := .int (nI n)) (C := "ClearingBooksModel") (T := T_M) (N := 13) hx hb hts wi_M hown hK hP 0 rfl rfl 1 (by decide) (hts _ kw_274) (fun _ h9 => h9) rfl d_M_parties_6 ?_
  exact W.iret (v := nI n) hx hb hr (fun t ht hW => ⟨⟨nI n, (), rfl, rfl, by rw [ht]; exact hP, va_K.moved hW.alike hK, hD⟩, hS.F ht⟩) hS.2.2 d_M_parties_9
set_option maxHeartbeats 4000000 in
set_option maxRecDepth 100000 in
theorem m_audit (l : Launch) (dC : Nat → ClassId) (dI : Nat → Nat → Nat) (ad : Nat → Nat) (cI cJ : ClassId) (cd n tc : Nat) (ki ra : Nat → Int32) (po se : Nat → Int64) (bc : Nat → Int32) (bs op : Nat → Int64) (pr pe : Nat → Int32) (pm : Nat → Int64) (sz : Nat)  : Met l y_M_audit (.code y_M_audit b_M_audit 1 (some .int) :: wAll) ({ frames := 0, cells := 0, slots := 0, locals := 0 } : Room) (mu_P [.ref (ad 0)] (dC, dI) vwCl [(cI, .int), (cJ, .long)] (md_w ad cI cJ cd n tc ki ra po se bc bs op pr pe pm) sz) (va_Qi (fun (z : Int32) (_ : Unit) => z = nI 0) (mu_B (dC, dI) vwCl [(cI, .int), (cJ, .long)] (va_A (md_w ad cI cJ cd n tc ki ra po se bc bs op pr pe pm) sz) (md_w ad cI cJ 0 n tc ki ra po se bc bs op pr pe pm)) (va_A (md_w ad cI cJ cd n tc ki ra po se bc bs op pr pe pm) sz)) 0 0 (va_A (md_w ad cI cJ cd n tc ki ra po se bc bs op pr pe pm) sz) := by
  refine Met.ofW (cc := b_M_audit) (maxL := 1) (ret := (some .int)) (by decide) rfl ?_
  intro p e s m args below meth c s₁ B hml hv
  obtain ⟨rfl, hsz, hP, hK, hD0⟩ := hv
  have hx := B.exec
  have hb := B.bytes
  have hr := B.returns
  have hts0 := atoms_spec (ws := (.code y_M_audit b_M_audit 1 (some .int) :: wAll)) B.pre
  have hts := hts_all hts0
  have hown : s.vm.findClass "ClearingBooksModel" = some m.cls := findClass_of_methodNamed B.named
  have hlocks := B.notSynchronized
  subst hsz
  have hD := hD0.self (sz := s.heap.size)
  generalize hAe : va_A (md_w ad cI cJ cd n tc ki ra po se bc bs op pr pe pm) s.heap.size = A at hD ⊢
  have hA : ∀ q : Nat, s.heap.size ≤ q → A q := fun q h => by rw [← hAe]; exact Or.inr h
  have hS : va_S A s.heap s.heap [] := va_S.rf
  have hl := lv_entry ([.ref (ad 0)]) (n := 1) (Nat.le_of_ble_eq_true rfl)
  rw [lg_entry_eq]
  generalize (lg_sl ([.ref (ad 0)]) ++ List.replicate (1 - (lg_sl ([.ref (ad 0)])).length) Slot.unset).toArray = ls at hl ⊢
  have hl : lv_has ls 1 [(0, .ref (ad 0))] := hl
  refine lv_aload_n hx hb d_M_audit_0 rfl (lv_at hl 0 rfl) ?_
  refine lv_iconst (v := nI 0) hx hb d_M_audit_1 (by decide) ?_
  refine va_put (D := (dC, dI)) (ci := 1) (v := .int (nI 0)) (ty := .int) (C := "ClearingBooksModel") (T := T_M) (N := 13) hx hb hts wi_M ty_M tyok_M nm_M hown hK hP hD hS 0 rfl rfl 0 (by decide) (hts _ kw_273) (fun _ h9 => h9) rfl (by decide +kernel) rfl rfl (Nat.le_of_ble_eq_true rfl) d_M_audit_2 (fun H locs hP hD hS => ?_)
  have hP : va_P (dC, dI) vwCl (md_w ad cI cJ 0 n tc ki ra po se bc bs op pr pe pm) H := hP
  have hD : va_D A (md_w ad cI cJ 0 n tc ki ra po se bc bs op pr pe pm) := hD
  refine lv_iconst (v := nI 0) hx hb d_M_audit_5 (by decide) ?_
  exact W.iret (v := nI 0) hx hb hr (fun t ht hW => ⟨⟨nI 0, (), rfl, rfl, by rw [ht]; exact hP, va_K.moved hW.alike hK, hD⟩, hS.F ht⟩) hS.2.2 d_M_audit_6
end
section
set_option maxHeartbeats 4000000 in
set_option maxRecDepth 100000 in
theorem m_settle (l : Launch) (dC : Nat → ClassId) (dI : Nat → Nat → Nat) (ad : Nat → Nat) (cI cJ : ClassId) (cd n tc : Nat) (ki ra : Nat → Int32) (po se : Nat → Int64) (bc : Nat → Int32) (bs op : Nat → Int64) (pr pe : Nat → Int32) (pm : Nat → Int64) (sz : Nat) (h1 : 1 ≤ n) (hn : n ≤ 15) (hsi0 : si po n = 0) (hsm0 : sml po n) : Met l y_M_settle (.code y_M_settle b_M_settle 6 (some .int) :: wAll) ({ frames := 0, cells := 0, slots := 0, locals := 0 } : Room) (mu_P [.ref (ad 0)] (dC, dI) vwCl [(cI, .int), (cJ, .long)] (md_w ad cI cJ cd n tc ki ra po se bc bs op pr pe pm) sz) (va_Qi (fun (z : Int32) (_ : Unit) => z = nI (trs n 14 (0, cpy n po op, pr, pe, pm)).1) (mu_B (dC, dI) vwCl [(cI, .int), (cJ, .long)] (va_A (md_w ad cI cJ cd n tc ki ra po se bc bs op pr pe pm) sz) (md_w ad cI cJ 0 n ((trs n 14 (0, cpy n po op, pr, pe, pm)).1) ki ra (cpy n (fun _ => 0) po) (cpy n (fun q => se q + po q) se) bc bs ((trs n 14 (0, cpy n po op, pr, pe, pm)).2.1) ((trs n 14 (0, cpy n po op, pr, pe, pm)).2.2.1) ((trs n 14 (0, cpy n po op, pr, pe, pm)).2.2.2.1) ((trs n 14 (0, cpy n po op, pr, pe, pm)).2.2.2.2))) (va_A (md_w ad cI cJ cd n tc ki ra po se bc bs op pr pe pm) sz)) 0 0 (va_A (md_w ad cI cJ cd n tc ki ra po se bc bs op pr pe pm) sz) := by
  refine Met.ofW (cc := b_M_settle) (maxL := 6) (ret := (some .int)) (by decide) rfl ?_
  intro p e s m args below meth c s₁ B hml hv
  obtain ⟨rfl, hsz, hP, hK, hD0⟩ := hv
  have hx := B.exec
  have hb := B.bytes
  have hr := B.returns
  have hts0 := atoms_spec (ws := (.code y_M_settle b_M_settle 6 (some .int) :: wAll)) B.pre
  have hts := hts_all hts0
  have hown : s.vm.findClass "ClearingBooksModel" = some m.cls := findClass_of_methodNamed B.named
  have hlocks := B.notSynchronized
  subst hsz
  have hD := hD0.self (sz := s.heap.size)
  generalize hAe : va_A (md_w ad cI cJ cd n tc ki ra po se bc bs op pr pe pm) s.heap.size = A at hD ⊢
  have hA : ∀ q : Nat, s.heap.size ≤ q → A q := fun q h => by rw [← hAe]; exact Or.inr h
  have hS : va_S A s.heap s.heap [] := va_S.rf
  have hl := lv_entry ([.ref (ad 0)]) (n := 6) (Nat.le_of_ble_eq_true rfl)
  rw [lg_entry_eq]
  generalize (lg_sl ([.ref (ad 0)]) ++ List.replicate (6 - (lg_sl ([.ref (ad 0)])).length) Slot.unset).toArray = ls at hl ⊢
  have hl : lv_has ls 6 [(0, .ref (ad 0))] := hl
  refine lv_aload_n hx hb d_M_settle_0 rfl (lv_at hl 0 rfl) ?_
  refine lv_iconst (v := nI 0) hx hb d_M_settle_1 (by decide) ?_
  refine va_put (D := (dC, dI)) (ci := 1) (v := .int (nI 0)) (ty := .int) (C := "ClearingBooksModel") (T := T_M) (N := 13) hx hb hts wi_M ty_M tyok_M nm_M hown hK hP hD hS 0 rfl rfl 0 (by decide) (hts _ kw_273) (fun _ h9 => h9) rfl (by decide +kernel) rfl rfl (Nat.le_of_ble_eq_true rfl) d_M_settle_2 (fun H locs hP hD hS => ?_)
  have hP : va_P (dC, dI) vwCl (md_w ad cI cJ 0 n tc ki ra po se bc bs op pr pe pm) H := hP
  have hD : va_D A (md_w ad cI cJ 0 n tc ki ra po se bc bs op pr pe pm) := hD
  refine lv_iconst (v := nI 0) hx hb d_M_settle_5 (by decide) ?_
  refine lv_istore_n (lv' := [(1, .int (nI 0)), (0, .ref (ad 0))]) hx hb d_M_settle_6 rfl hl (by decide) rfl (fun ls hl => ?_)
  have loop2 : ∀ (k : Nat) (t : TT) (H : Heap) (locs : List Loc) (ls : Array Slot) (z : List (Nat × Value)), t.1 + k = 14 → trs n k t = (trs n 14 (0, cpy n po op, pr, pe, pm)) → si t.2.1 n = 0 → sml t.2.1 n → cz t.2.1 n ≤ k + 1 → va_P (dC, dI) vwCl (md_w ad cI cJ 0 n t.1 ki ra (cpy n (fun _ => 0) po) (cpy n (fun q => se q + po q) se) bc bs t.2.1 t.2.2.1 t.2.2.2.1 t.2.2.2.2) H → va_D A (md_w ad cI cJ 0 n t.1 ki ra (cpy n (fun _ => 0) po) (cpy n (fun q => se q + po q) se) bc bs t.2.1 t.2.2.1 t.2.2.2.1 t.2.2.2.2) → va_S A s.heap H locs → lv_has ls 6 ((0, .ref (ad 0)) :: (1, .int (nI 1)) :: z) → W p l e (headSpec (.code y_M_settle b_M_settle 6 (some .int) :: wAll) ({ frames := 0, cells := 0, slots := 0, locals := 0 } : Room)).room s m ([.ref (ad 0)] : List Value).toArray below meth c H locs 0 0 (MQ below (va_Qi (fun (z : Int32) (_ : Unit) => z = nI (trs n 14 (0, cpy n po op, pr, pe, pm)).1) (mu_B (dC, dI) vwCl [(cI, .int), (cJ, .long)] A (md_w ad cI cJ 0 n ((trs n 14 (0, cpy n po op, pr, pe, pm)).1) ki ra (cpy n (fun _ => 0) po) (cpy n (fun q => se q + po q) se) bc bs ((trs n 14 (0, cpy n po op, pr, pe, pm)).2.1) ((trs n 14 (0, cpy n po op, pr, pe, pm)).2.2.1) ((trs n 14 (0, cpy n po op, pr, pe, pm)).2.2.2.1) ((trs n 14 (0, cpy n po op, pr, pe, pm)).2.2.2.2))) A) ([.ref (ad 0)] : List Value).toArray s 0 0 A) (F0 m 62 ls []) := by
    intro k
    induction k with
    | zero =>
      intro t H locs ls z hk hF hsi hsm hcz hP hD hS hl
      replace hl := lv_sub (l' := [(0, .ref (ad 0)), (1, .int (nI 1))]) hl [0, 1] rfl
      have h7 := am_le t.2.1 (n - 1)
      have h8 := ax_le t.2.1 (n - 1)
      have tail : ∀ (ls : Array Slot), lv_has ls 6 [(0, .ref (ad 0)), (1, .int (nI 1)), (2, .int (nI (am t.2.1 (n - 1)))), (3, .int (nI (ax t.2.1 (n - 1)))), (4, .int (nI n))] → W p l e (headSpec (.code y_M_settle b_M_settle 6 (some .int) :: wAll) ({ frames := 0, cells := 0, slots := 0, locals := 0 } : Room)).room s m ([.ref (ad 0)] : List Value).toArray below meth c H locs 0 0 (MQ below (va_Qi (fun (z : Int32) (_ : Unit) => z = nI (trs n 14 (0, cpy n po op, pr, pe, pm)).1) (mu_B (dC, dI) vwCl [(cI, .int), (cJ, .long)] A (md_w ad cI cJ 0 n ((trs n 14 (0, cpy n po op, pr, pe, pm)).1) ki ra (cpy n (fun _ => 0) po) (cpy n (fun q => se q + po q) se) bc bs ((trs n 14 (0, cpy n po op, pr, pe, pm)).2.1) ((trs n 14 (0, cpy n po op, pr, pe, pm)).2.2.1) ((trs n 14 (0, cpy n po op, pr, pe, pm)).2.2.2.1) ((trs n 14 (0, cpy n po op, pr, pe, pm)).2.2.2.2))) A) ([.ref (ad 0)] : List Value).toArray s 0 0 A) (F0 m 136 ls []) := by
        intro ls hl
        refine lv_aload_n hx hb d_M_settle_136 rfl (lv_at hl 0 rfl) ?_
        refine va_get (D := (dC, dI)) (ci := 1) (v := .ref (ad 7)) (C := "ClearingBooksModel") (T := T_M) (N := 13) hx hb hts wi_M hown hK hP 0 rfl rfl 8 (by decide) (hts _ kw_281) (fun _ h9 => h9) rfl d_M_settle_137 ?_
        refine lv_iload_n hx hb d_M_settle_140 rfl (lv_at hl 2 rfl) ?_
        refine xa_laload (f := t.2.1) hx hb hK hP 7 1 rfl rfl (j := am t.2.1 (n - 1)) (by omega) (by decide) d_M_settle_141 ?_
        refine lv_lconst (v := 0) hx hb d_M_settle_142 (by decide) ?_
        refine W.lcmp hx hb d_M_settle_143 ?_
        refine lv_if_ge (tgt := 151) hx hb d_M_settle_144 (by decide) (fun c71 => ?_) (fun c71 => ?_)
        · replace c71 := (lg_cmp_ge _ _).mp c71
          replace hF : t = (trs n 14 (0, cpy n po op, pr, pe, pm)) := hF
          refine lv_iconst (v := nI 0) hx hb d_M_settle_151 (by decide) ?_
          refine lv_istore_n (lv' := [(1, .int (nI 0)), (0, .ref (ad 0)), (2, .int (nI (am t.2.1 (n - 1)))), (3, .int (nI (ax t.2.1 (n - 1)))), (4, .int (nI n))]) hx hb d_M_settle_152 rfl hl (by decide) rfl (fun ls hl => ?_)
          refine lv_iload_n hx hb d_M_settle_153 rfl (lv_at hl 0 rfl) ?_
          refine lv_if_eq (tgt := 255) hx hb d_M_settle_154 (by decide) (fun c72 => ?_) (fun c72 => ?_)
          · refine lv_goto (tgt := 62) hx hb d_M_settle_255 (by decide) ?_
            refine lv_iload_n hx hb d_M_settle_62 rfl (lv_at hl 0 rfl) ?_
            refine lv_if_eq (tgt := 258) hx hb d_M_settle_63 (by decide) (fun c73 => ?_) (fun c73 => ?_)
            · refine lv_aload_n hx hb d_M_settle_258 rfl (lv_at hl 1 rfl) ?_
              refine va_get (D := (dC, dI)) (ci := 1) (v := .int (nI t.1)) (C := "ClearingBooksModel") (T := T_M) (N := 13) hx hb hts wi_M hown hK hP 0 rfl rfl 9 (by decide) (hts _ kw_282) (fun _ h9 => h9) rfl d_M_settle_259 ?_
              exact W.iret (v := nI t.1) hx hb hr (fun t9 ht hW => ⟨⟨nI t.1, (), rfl, by rw [← hF], by rw [ht]; exact by rw [← hF]; exact hP, va_K.moved hW.alike hK, by rw [← hF]; exact hD⟩, hS.F ht⟩) hS.2.2 d_M_settle_262
            · exact absurd rfl c73
          · exact absurd rfl c72
        · replace c71 := mt (lg_cmp_ge _ _).mpr c71
          exact absurd (cz_end h1 hsi hcz) c71
      have inner : ∀ (k2 i : Nat) (ls : Array Slot), i + 1 + k2 = n → lv_has ls 6 [(0, .ref (ad 0)), (1, .int (nI 1)), (2, .int (nI (am t.2.1 i))), (3, .int (nI (ax t.2.1 i))), (4, .int (nI (i + 1)))] → W p l e (headSpec (.code y_M_settle b_M_settle 6 (some .int) :: wAll) ({ frames := 0, cells := 0, slots := 0, locals := 0 } : Room)).room s m ([.ref (ad 0)] : List Value).toArray below meth c H locs 0 0 (MQ below (va_Qi (fun (z : Int32) (_ : Unit) => z = nI (trs n 14 (0, cpy n po op, pr, pe, pm)).1) (mu_B (dC, dI) vwCl [(cI, .int), (cJ, .long)] A (md_w ad cI cJ 0 n ((trs n 14 (0, cpy n po op, pr, pe, pm)).1) ki ra (cpy n (fun _ => 0) po) (cpy n (fun q => se q + po q) se) bc bs ((trs n 14 (0, cpy n po op, pr, pe, pm)).2.1) ((trs n 14 (0, cpy n po op, pr, pe, pm)).2.2.1) ((trs n 14 (0, cpy n po op, pr, pe, pm)).2.2.2.1) ((trs n 14 (0, cpy n po op, pr, pe, pm)).2.2.2.2))) A) ([.ref (ad 0)] : List Value).toArray s 0 0 A) (F0 m 73 ls []) := by
        intro k2
        induction k2 with
        | zero =>
          intro i ls hi hl
          have h5 := am_le t.2.1 i
          have h6 := ax_le t.2.1 i
          refine lv_iload hx hb d_M_settle_73 (lv_at hl 4 rfl) ?_
          refine lv_aload_n hx hb d_M_settle_75 rfl (lv_at hl 0 rfl) ?_
          refine va_get (D := (dC, dI)) (ci := 1) (v := .int (nI n)) (C := "ClearingBooksModel") (T := T_M) (N := 13) hx hb hts wi_M hown hK hP 0 rfl rfl 1 (by decide) (hts _ kw_274) (fun _ h9 => h9) rfl d_M_settle_76 ?_
          refine lv_icmp_ge (tgt := 136) hx hb d_M_settle_79 (by decide) (fun c91 => ?_) (fun c91 => ?_)
          · replace c91 := (nI_leI (by omega) (by omega)).mp c91
            obtain rfl : n = i + 1 := by omega
            exact tail ls (lv_sub hl [0, 1, 2, 3, 4] rfl)
          · replace c91 := mt (nI_leI (by omega) (by omega)).mpr c91
            exfalso; omega
        | succ k2 ih2 =>
          intro i ls hi hl
          have h5 := am_le t.2.1 i
          have h6 := ax_le t.2.1 i
          refine lv_iload hx hb d_M_settle_73 (lv_at hl 4 rfl) ?_
          refine lv_aload_n hx hb d_M_settle_75 rfl (lv_at hl 0 rfl) ?_
          refine va_get (D := (dC, dI)) (ci := 1) (v := .int (nI n)) (C := "ClearingBooksModel") (T := T_M) (N := 13) hx hb hts wi_M hown hK hP 0 rfl rfl 1 (by decide) (hts _ kw_274) (fun _ h9 => h9) rfl d_M_settle_76 ?_
          refine lv_icmp_ge (tgt := 136) hx hb d_M_settle_79 (by decide) (fun c91 => ?_) (fun c91 => ?_)
          · replace c91 := (nI_leI (by omega) (by omega)).mp c91
            exfalso; omega
          · replace c91 := mt (nI_leI (by omega) (by omega)).mpr c91
            refine lv_aload_n hx hb d_M_settle_82 rfl (lv_at hl 0 rfl) ?_
            refine va_get (D := (dC, dI)) (ci := 1) (v := .ref (ad 7)) (C := "ClearingBooksModel") (T := T_M) (N := 13) hx hb hts wi_M hown hK hP 0 rfl rfl 8 (by decide) (hts _ kw_281) (fun _ h9 => h9) rfl d_M_settle_83 ?_
            refine lv_iload hx hb d_M_settle_86 (lv_at hl 4 rfl) ?_
            refine xa_laload (f := t.2.1) hx hb hK hP 7 1 rfl rfl (j := i + 1) (by omega) (by decide) d_M_settle_88 ?_
            refine lv_aload_n hx hb d_M_settle_89 rfl (lv_at hl 0 rfl) ?_
            refine va_get (D := (dC, dI)) (ci := 1) (v := .ref (ad 7)) (C := "ClearingBooksModel") (T := T_M) (N := 13) hx hb hts wi_M hown hK hP 0 rfl rfl 8 (by decide) (hts _ kw_281) (fun _ h9 => h9) rfl d_M_settle_90 ?_
            refine lv_iload_n hx hb d_M_settle_93 rfl (lv_at hl 2 rfl) ?_
            refine xa_laload (f := t.2.1) hx hb hK hP 7 1 rfl rfl (j := am t.2.1 i) (by omega) (by decide) d_M_settle_94 ?_
            refine W.lcmp hx hb d_M_settle_95 ?_
            refine lv_if_ge (tgt := 104) hx hb d_M_settle_96 (by decide) (fun c92 => ?_) (fun c92 => ?_)
            · replace c92 := (lg_cmp_ge _ _).mp c92
              refine lv_iload_n hx hb d_M_settle_104 rfl (lv_at hl 2 rfl) ?_
              refine lv_istore_n (lv' := [(2, .int (nI (am t.2.1 i))), (0, .ref (ad 0)), (1, .int (nI 1)), (3, .int (nI (ax t.2.1 i))), (4, .int (nI (i + 1)))]) hx hb d_M_settle_105 rfl hl (by decide) rfl (fun ls hl => ?_)
              refine lv_aload_n hx hb d_M_settle_106 rfl (lv_at hl 1 rfl) ?_
              refine va_get (D := (dC, dI)) (ci := 1) (v := .ref (ad 7)) (C := "ClearingBooksModel") (T := T_M) (N := 13) hx hb hts wi_M hown hK hP 0 rfl rfl 8 (by decide) (hts _ kw_281) (fun _ h9 => h9) rfl d_M_settle_107 ?_
              refine lv_iload hx hb d_M_settle_110 (lv_at hl 4 rfl) ?_
              refine xa_laload (f := t.2.1) hx hb hK hP 7 1 rfl rfl (j := i + 1) (by omega) (by decide) d_M_settle_112 ?_
              refine lv_aload_n hx hb d_M_settle_113 rfl (lv_at hl 1 rfl) ?_
              refine va_get (D := (dC, dI)) (ci := 1) (v := .ref (ad 7)) (C := "ClearingBooksModel") (T := T_M) (N := 13) hx hb hts wi_M hown hK hP 0 rfl rfl 8 (by decide) (hts _ kw_281) (fun _ h9 => h9) rfl d_M_settle_114 ?_
              refine lv_iload_n hx hb d_M_settle_117 rfl (lv_at hl 3 rfl) ?_
              refine xa_laload (f := t.2.1) hx hb hK hP 7 1 rfl rfl (j := ax t.2.1 i) (by omega) (by decide) d_M_settle_118 ?_
              refine W.lcmp hx hb d_M_settle_119 ?_
              refine lv_if_le (tgt := 128) hx hb d_M_settle_120 (by decide) (fun c93 => ?_) (fun c93 => ?_)
              · replace c93 := (lg_cmp_le _ _).mp c93
                refine lv_iload_n hx hb d_M_settle_128 rfl (lv_at hl 3 rfl) ?_
                refine lv_istore_n (lv' := [(3, .int (nI (ax t.2.1 i))), (2, .int (nI (am t.2.1 i))), (0, .ref (ad 0)), (1, .int (nI 1)), (4, .int (nI (i + 1)))]) hx hb d_M_settle_129 rfl hl (by decide) rfl (fun ls hl => ?_)
                refine lv_iinc (v := nI (i + 1 + 1)) (lv' := [(4, .int (nI (i + 1 + 1))), (3, .int (nI (ax t.2.1 i))), (2, .int (nI (am t.2.1 i))), (0, .ref (ad 0)), (1, .int (nI 1))]) hx hb d_M_settle_130 hl (k := 4) rfl (nI_1 (i + 1)) (by decide) rfl (fun ls hl => ?_)
                refine lv_goto (tgt := 73) hx hb d_M_settle_133 (by decide) ?_
                have ea : am t.2.1 (i + 1) = am t.2.1 i := am_y (by assumption)
                have eb : ax t.2.1 (i + 1) = ax t.2.1 i := ax_y (by assumption)
                exact ih2 (i + 1) ls (by omega) (by rw [ea, eb]; exact lv_sub hl [3, 4, 2, 1, 0] rfl)
              · replace c93 := mt (lg_cmp_le _ _).mpr c93
                refine lv_iload hx hb d_M_settle_123 (lv_at hl 4 rfl) ?_
                refine lv_goto (tgt := 129) hx hb d_M_settle_125 (by decide) ?_
                refine lv_istore_n (lv' := [(3, .int (nI (i + 1))), (2, .int (nI (am t.2.1 i))), (0, .ref (ad 0)), (1, .int (nI 1)), (4, .int (nI (i + 1)))]) hx hb d_M_settle_129 rfl hl (by decide) rfl (fun ls hl => ?_)
                refine lv_iinc (v := nI (i + 1 + 1)) (lv' := [(4, .int (nI (i + 1 + 1))), (3, .int (nI (i + 1))), (2, .int (nI (am t.2.1 i))), (0, .ref (ad 0)), (1, .int (nI 1))]) hx hb d_M_settle_130 hl (k := 4) rfl (nI_1 (i + 1)) (by decide) rfl (fun ls hl => ?_)
                refine lv_goto (tgt := 73) hx hb d_M_settle_133 (by decide) ?_
                have ea : am t.2.1 (i + 1) = am t.2.1 i := am_y (by assumption)
                have eb : ax t.2.1 (i + 1) = i + 1 := ax_n (by assumption)
                exact ih2 (i + 1) ls (by omega) (by rw [ea, eb]; exact lv_sub hl [3, 4, 2, 1, 0] rfl)
            · replace c92 := mt (lg_cmp_ge _ _).mpr c92
              refine lv_iload hx hb d_M_settle_99 (lv_at hl 4 rfl) ?_
              refine lv_goto (tgt := 105) hx hb d_M_settle_101 (by decide) ?_
              refine lv_istore_n (lv' := [(2, .int (nI (i + 1))), (0, .ref (ad 0)), (1, .int (nI 1)), (3, .int (nI (ax t.2.1 i))), (4, .int (nI (i + 1)))]) hx hb d_M_settle_105 rfl hl (by decide) rfl (fun ls hl => ?_)
              refine lv_aload_n hx hb d_M_settle_106 rfl (lv_at hl 1 rfl) ?_
              refine va_get (D := (dC, dI)) (ci := 1) (v := .ref (ad 7)) (C := "ClearingBooksModel") (T := T_M) (N := 13) hx hb hts wi_M hown hK hP 0 rfl rfl 8 (by decide) (hts _ kw_281) (fun _ h9 => h9) rfl d_M_settle_107 ?_
              refine lv_iload hx hb d_M_settle_110 (lv_at hl 4 rfl) ?_
              refine xa_laload (f := t.2.1) hx hb hK hP 7 1 rfl rfl (j := i + 1) (by omega) (by decide) d_M_settle_112 ?_
              refine lv_aload_n hx hb d_M_settle_113 rfl (lv_at hl 1 rfl) ?_
              refine va_get (D := (dC, dI)) (ci := 1) (v := .ref (ad 7)) (C := "ClearingBooksModel") (T := T_M) (N := 13) hx hb hts wi_M hown hK hP 0 rfl rfl 8 (by decide) (hts _ kw_281) (fun _ h9 => h9) rfl d_M_settle_114 ?_
              refine lv_iload_n hx hb d_M_settle_117 rfl (lv_at hl 3 rfl) ?_
              refine xa_laload (f := t.2.1) hx hb hK hP 7 1 rfl rfl (j := ax t.2.1 i) (by omega) (by decide) d_M_settle_118 ?_
              refine W.lcmp hx hb d_M_settle_119 ?_
              refine lv_if_le (tgt := 128) hx hb d_M_settle_120 (by decide) (fun c94 => ?_) (fun c94 => ?_)
              · replace c94 := (lg_cmp_le _ _).mp c94
                refine lv_iload_n hx hb d_M_settle_128 rfl (lv_at hl 3 rfl) ?_
                refine lv_istore_n (lv' := [(3, .int (nI (ax t.2.1 i))), (2, .int (nI (i + 1))), (0, .ref (ad 0)), (1, .int (nI 1)), (4, .int (nI (i + 1)))]) hx hb d_M_settle_129 rfl hl (by decide) rfl (fun ls hl => ?_)
                refine lv_iinc (v := nI (i + 1 + 1)) (lv' := [(4, .int (nI (i + 1 + 1))), (3, .int (nI (ax t.2.1 i))), (2, .int (nI (i + 1))), (0, .ref (ad 0)), (1, .int (nI 1))]) hx hb d_M_settle_130 hl (k := 4) rfl (nI_1 (i + 1)) (by decide) rfl (fun ls hl => ?_)
                refine lv_goto (tgt := 73) hx hb d_M_settle_133 (by decide) ?_
                have ea : am t.2.1 (i + 1) = i + 1 := am_n (by assumption)
                have eb : ax t.2.1 (i + 1) = ax t.2.1 i := ax_y (by assumption)
                exact ih2 (i + 1) ls (by omega) (by rw [ea, eb]; exact lv_sub hl [3, 4, 2, 1, 0] rfl)
              · replace c94 := mt (lg_cmp_le _ _).mpr c94
                refine lv_iload hx hb d_M_settle_123 (lv_at hl 4 rfl) ?_
                refine lv_goto (tgt := 129) hx hb d_M_settle_125 (by decide) ?_
                refine lv_istore_n (lv' := [(3, .int (nI (i + 1))), (2, .int (nI (i + 1))), (0, .ref (ad 0)), (1, .int (nI 1)), (4, .int (nI (i + 1)))]) hx hb d_M_settle_129 rfl hl (by decide) rfl (fun ls hl => ?_)
                refine lv_iinc (v := nI (i + 1 + 1)) (lv' := [(4, .int (nI (i + 1 + 1))), (3, .int (nI (i + 1))), (2, .int (nI (i + 1))), (0, .ref (ad 0)), (1, .int (nI 1))]) hx hb d_M_settle_130 hl (k := 4) rfl (nI_1 (i + 1)) (by decide) rfl (fun ls hl => ?_)
                refine lv_goto (tgt := 73) hx hb d_M_settle_133 (by decide) ?_
                have ea : am t.2.1 (i + 1) = i + 1 := am_n (by assumption)
                have eb : ax t.2.1 (i + 1) = i + 1 := ax_n (by assumption)
                exact ih2 (i + 1) ls (by omega) (by rw [ea, eb]; exact lv_sub hl [3, 4, 2, 1, 0] rfl)
      refine lv_iload_n hx hb d_M_settle_62 rfl (lv_at hl 1 rfl) ?_
      refine lv_if_eq (tgt := 258) hx hb d_M_settle_63 (by decide) (fun c111 => ?_) (fun c111 => ?_)
      · exact absurd c111 (by decide)
      · refine lv_iconst (v := nI 0) hx hb d_M_settle_66 (by decide) ?_
        refine lv_istore_n (lv' := [(2, .int (nI 0)), (0, .ref (ad 0)), (1, .int (nI 1))]) hx hb d_M_settle_67 rfl hl (by decide) rfl (fun ls hl => ?_)
        refine lv_iconst (v := nI 0) hx hb d_M_settle_68 (by decide) ?_
        refine lv_istore_n (lv' := [(3, .int (nI 0)), (2, .int (nI 0)), (0, .ref (ad 0)), (1, .int (nI 1))]) hx hb d_M_settle_69 rfl hl (by decide) rfl (fun ls hl => ?_)
        refine lv_iconst (v := nI 1) hx hb d_M_settle_70 (by decide) ?_
        refine lv_istore (lv' := [(4, .int (nI 1)), (3, .int (nI 0)), (2, .int (nI 0)), (0, .ref (ad 0)), (1, .int (nI 1))]) hx hb d_M_settle_71 hl (by decide) rfl (fun ls hl => ?_)
        exact inner (n - 1) 0 ls (by omega) (lv_sub hl [3, 4, 2, 1, 0] rfl)
    | succ k ih =>
      intro t H locs ls z hk hF hsi hsm hcz hP hD hS hl
      replace hl := lv_sub (l' := [(0, .ref (ad 0)), (1, .int (nI 1))]) hl [0, 1] rfl
      have h7 := am_le t.2.1 (n - 1)
      have h8 := ax_le t.2.1 (n - 1)
      have tail : ∀ (ls : Array Slot), lv_has ls 6 [(0, .ref (ad 0)), (1, .int (nI 1)), (2, .int (nI (am t.2.1 (n - 1)))), (3, .int (nI (ax t.2.1 (n - 1)))), (4, .int (nI n))] → W p l e (headSpec (.code y_M_settle b_M_settle 6 (some .int) :: wAll) ({ frames := 0, cells := 0, slots := 0, locals := 0 } : Room)).room s m ([.ref (ad 0)] : List Value).toArray below meth c H locs 0 0 (MQ below (va_Qi (fun (z : Int32) (_ : Unit) => z = nI (trs n 14 (0, cpy n po op, pr, pe, pm)).1) (mu_B (dC, dI) vwCl [(cI, .int), (cJ, .long)] A (md_w ad cI cJ 0 n ((trs n 14 (0, cpy n po op, pr, pe, pm)).1) ki ra (cpy n (fun _ => 0) po) (cpy n (fun q => se q + po q) se) bc bs ((trs n 14 (0, cpy n po op, pr, pe, pm)).2.1) ((trs n 14 (0, cpy n po op, pr, pe, pm)).2.2.1) ((trs n 14 (0, cpy n po op, pr, pe, pm)).2.2.2.1) ((trs n 14 (0, cpy n po op, pr, pe, pm)).2.2.2.2))) A) ([.ref (ad 0)] : List Value).toArray s 0 0 A) (F0 m 136 ls []) := by
        intro ls hl
        refine lv_aload_n hx hb d_M_settle_136 rfl (lv_at hl 0 rfl) ?_
        refine va_get (D := (dC, dI)) (ci := 1) (v := .ref (ad 7)) (C := "ClearingBooksModel") (T := T_M) (N := 13) hx hb hts wi_M hown hK hP 0 rfl rfl 8 (by decide) (hts _ kw_281) (fun _ h9 => h9) rfl d_M_settle_137 ?_
        refine lv_iload_n hx hb d_M_settle_140 rfl (lv_at hl 2 rfl) ?_
        refine xa_laload (f := t.2.1) hx hb hK hP 7 1 rfl rfl (j := am t.2.1 (n - 1)) (by omega) (by decide) d_M_settle_141 ?_
        refine lv_lconst (v := 0) hx hb d_M_settle_142 (by decide) ?_
        refine W.lcmp hx hb d_M_settle_143 ?_
        refine lv_if_ge (tgt := 151) hx hb d_M_settle_144 (by decide) (fun c71 => ?_) (fun c71 => ?_)
        · replace c71 := (lg_cmp_ge _ _).mp c71
          replace hF : t = (trs n 14 (0, cpy n po op, pr, pe, pm)) := by rw [← hF, trs, if_pos c71]
          refine lv_iconst (v := nI 0) hx hb d_M_settle_151 (by decide) ?_
          refine lv_istore_n (lv' := [(1, .int (nI 0)), (0, .ref (ad 0)), (2, .int (nI (am t.2.1 (n - 1)))), (3, .int (nI (ax t.2.1 (n - 1)))), (4, .int (nI n))]) hx hb d_M_settle_152 rfl hl (by decide) rfl (fun ls hl => ?_)
          refine lv_iload_n hx hb d_M_settle_153 rfl (lv_at hl 0 rfl) ?_
          refine lv_if_eq (tgt := 255) hx hb d_M_settle_154 (by decide) (fun c72 => ?_) (fun c72 => ?_)
          · refine lv_goto (tgt := 62) hx hb d_M_settle_255 (by decide) ?_
            refine lv_iload_n hx hb d_M_settle_62 rfl (lv_at hl 0 rfl) ?_
            refine lv_if_eq (tgt := 258) hx hb d_M_settle_63 (by decide) (fun c73 => ?_) (fun c73 => ?_)
            · refine lv_aload_n hx hb d_M_settle_258 rfl (lv_at hl 1 rfl) ?_
              refine va_get (D := (dC, dI)) (ci := 1) (v := .int (nI t.1)) (C := "ClearingBooksModel") (T := T_M) (N := 13) hx hb hts wi_M hown hK hP 0 rfl rfl 9 (by decide) (hts _ kw_282) (fun _ h9 => h9) rfl d_M_settle_259 ?_
              exact W.iret (v := nI t.1) hx hb hr (fun t9 ht hW => ⟨⟨nI t.1, (), rfl, by rw [← hF], by rw [ht]; exact by rw [← hF]; exact hP, va_K.moved hW.alike hK, by rw [← hF]; exact hD⟩, hS.F ht⟩) hS.2.2 d_M_settle_262
            · exact absurd rfl c73
          · exact absurd rfl c72
        · replace c71 := mt (lg_cmp_ge _ _).mpr c71
          replace hF : trs n k (tr1 n t) = (trs n 14 (0, cpy n po op, pr, pe, pm)) := by rw [← hF, trs, if_neg c71]
          obtain ⟨b1, b2, b3⟩ := tr_step h1 hsi hsm c71
          refine lv_iconst (v := nI 1) hx hb d_M_settle_147 (by decide) ?_
          refine lv_goto (tgt := 152) hx hb d_M_settle_148 (by decide) ?_
          refine lv_istore_n (lv' := [(1, .int (nI 1)), (0, .ref (ad 0)), (2, .int (nI (am t.2.1 (n - 1)))), (3, .int (nI (ax t.2.1 (n - 1)))), (4, .int (nI n))]) hx hb d_M_settle_152 rfl hl (by decide) rfl (fun ls hl => ?_)
          refine lv_iload_n hx hb d_M_settle_153 rfl (lv_at hl 0 rfl) ?_
          refine lv_if_eq (tgt := 255) hx hb d_M_settle_154 (by decide) (fun c73 => ?_) (fun c73 => ?_)
          · exact absurd c73 (by decide)
          · refine lv_aload_n hx hb d_M_settle_157 rfl (lv_at hl 1 rfl) ?_
            refine va_get (D := (dC, dI)) (ci := 1) (v := .ref (ad 7)) (C := "ClearingBooksModel") (T := T_M) (N := 13) hx hb hts wi_M hown hK hP 0 rfl rfl 8 (by decide) (hts _ kw_281) (fun _ h9 => h9) rfl d_M_settle_158 ?_
            refine lv_iload_n hx hb d_M_settle_161 rfl (lv_at hl 2 rfl) ?_
            refine xa_laload (f := t.2.1) hx hb hK hP 7 1 rfl rfl (j := am t.2.1 (n - 1)) (by omega) (by decide) d_M_settle_162 ?_
            refine lv_lneg hx hb d_M_settle_163 ?_
            refine lv_aload_n hx hb d_M_settle_164 rfl (lv_at hl 1 rfl) ?_
            refine va_get (D := (dC, dI)) (ci := 1) (v := .ref (ad 7)) (C := "ClearingBooksModel") (T := T_M) (N := 13) hx hb hts wi_M hown hK hP 0 rfl rfl 8 (by decide) (hts _ kw_281) (fun _ h9 => h9) rfl d_M_settle_165 ?_
            refine lv_iload_n hx hb d_M_settle_168 rfl (lv_at hl 3 rfl) ?_
            refine xa_laload (f := t.2.1) hx hb hK hP 7 1 rfl rfl (j := ax t.2.1 (n - 1)) (by omega) (by decide) d_M_settle_169 ?_
            refine W.lcmp hx hb d_M_settle_170 ?_
            refine lv_if_ge (tgt := 184) hx hb d_M_settle_171 (by decide) (fun c74 => ?_) (fun c74 => ?_)
            · replace c74 := (lg_cmp_ge _ _).mp c74
              refine lv_aload_n hx hb d_M_settle_184 rfl (lv_at hl 1 rfl) ?_
              refine va_get (D := (dC, dI)) (ci := 1) (v := .ref (ad 7)) (C := "ClearingBooksModel") (T := T_M) (N := 13) hx hb hts wi_M hown hK hP 0 rfl rfl 8 (by decide) (hts _ kw_281) (fun _ h9 => h9) rfl d_M_settle_185 ?_
              refine lv_iload_n hx hb d_M_settle_188 rfl (lv_at hl 3 rfl) ?_
              refine xa_laload (f := t.2.1) hx hb hK hP 7 1 rfl rfl (j := ax t.2.1 (n - 1)) (by omega) (by decide) d_M_settle_189 ?_
              refine lv_topl (fun v9 e9 => ?_)
              obtain rfl : v9 = pay t.2.1 (am t.2.1 (n - 1)) (ax t.2.1 (n - 1)) := by rw [e9]; first | exact pay_of (by assumption) | exact pay_of2 (by assumption)
              refine lv_lstore (lv' := [(4, .long (pay t.2.1 (am t.2.1 (n - 1)) (ax t.2.1 (n - 1)))), (1, .int (nI 1)), (0, .ref (ad 0)), (2, .int (nI (am t.2.1 (n - 1)))), (3, .int (nI (ax t.2.1 (n - 1))))]) hx hb d_M_settle_190 hl (by decide) rfl (fun ls hl => ?_)
              refine lv_aload_n hx hb d_M_settle_192 rfl (lv_at hl 2 rfl) ?_
              refine va_get (D := (dC, dI)) (ci := 1) (v := .ref (ad 7)) (C := "ClearingBooksModel") (T := T_M) (N := 13) hx hb hts wi_M hown hK hP 0 rfl rfl 8 (by decide) (hts _ kw_281) (fun _ h9 => h9) rfl d_M_settle_193 ?_
              refine lv_iload_n hx hb d_M_settle_196 rfl (lv_at hl 3 rfl) ?_
              refine lv_dup2_11 hx hb d_M_settle_197 rfl rfl ?_
              refine xa_laload (f := t.2.1) hx hb hK hP 7 1 rfl rfl (j := am t.2.1 (n - 1)) (by omega) (by decide) d_M_settle_198 ?_
              refine lv_lload hx hb d_M_settle_199 (lv_at hl 0 rfl) ?_
              refine lv_ladd hx hb d_M_settle_201 ?_
              refine xa_lastore (f := t.2.1) (x := (t.2.1 (am t.2.1 (n - 1))) + (pay t.2.1 (am t.2.1 (n - 1)) (ax t.2.1 (n - 1)))) hx hb hK hP hD hS 7 1 rfl rfl (j := am t.2.1 (n - 1)) (by omega) (by decide) d_M_settle_202 (fun H locs hP hD hS => ?_)
              have hP : va_P (dC, dI) vwCl (md_w ad cI cJ 0 n t.1 ki ra (cpy n (fun _ => 0) po) (cpy n (fun q => se q + po q) se) bc bs (vp_updL t.2.1 (am t.2.1 (n - 1)) ((t.2.1 (am t.2.1 (n - 1))) + (pay t.2.1 (am t.2.1 (n - 1)) (ax t.2.1 (n - 1))))) t.2.2.1 t.2.2.2.1 t.2.2.2.2) H := hP
              have hD : va_D A (md_w ad cI cJ 0 n t.1 ki ra (cpy n (fun _ => 0) po) (cpy n (fun q => se q + po q) se) bc bs (vp_updL t.2.1 (am t.2.1 (n - 1)) ((t.2.1 (am t.2.1 (n - 1))) + (pay t.2.1 (am t.2.1 (n - 1)) (ax t.2.1 (n - 1))))) t.2.2.1 t.2.2.2.1 t.2.2.2.2) := hD
              refine lv_aload_n hx hb d_M_settle_203 rfl (lv_at hl 2 rfl) ?_
              refine va_get (D := (dC, dI)) (ci := 1) (v := .ref (ad 7)) (C := "ClearingBooksModel") (T := T_M) (N := 13) hx hb hts wi_M hown hK hP 0 rfl rfl 8 (by decide) (hts _ kw_281) (fun _ h9 => h9) rfl d_M_settle_204 ?_
              refine lv_iload_n hx hb d_M_settle_207 rfl (lv_at hl 4 rfl) ?_
              refine lv_dup2_11 hx hb d_M_settle_208 rfl rfl ?_
              refine xa_laload (f := vp_updL t.2.1 (am t.2.1 (n - 1)) ((t.2.1 (am t.2.1 (n - 1))) + (pay t.2.1 (am t.2.1 (n - 1)) (ax t.2.1 (n - 1))))) hx hb hK hP 7 1 rfl rfl (j := ax t.2.1 (n - 1)) (by omega) (by decide) d_M_settle_209 ?_
              refine lv_lload hx hb d_M_settle_210 (lv_at hl 0 rfl) ?_
              refine lv_lsub hx hb d_M_settle_212 ?_
              refine xa_lastore (f := vp_updL t.2.1 (am t.2.1 (n - 1)) ((t.2.1 (am t.2.1 (n - 1))) + (pay t.2.1 (am t.2.1 (n - 1)) (ax t.2.1 (n - 1))))) (x := ((vp_updL t.2.1 (am t.2.1 (n - 1)) ((t.2.1 (am t.2.1 (n - 1))) + (pay t.2.1 (am t.2.1 (n - 1)) (ax t.2.1 (n - 1))))) (ax t.2.1 (n - 1))) - (pay t.2.1 (am t.2.1 (n - 1)) (ax t.2.1 (n - 1)))) hx hb hK hP hD hS 7 1 rfl rfl (j := ax t.2.1 (n - 1)) (by omega) (by decide) d_M_settle_213 (fun H locs hP hD hS => ?_)
              have hP : va_P (dC, dI) vwCl (md_w ad cI cJ 0 n t.1 ki ra (cpy n (fun _ => 0) po) (cpy n (fun q => se q + po q) se) bc bs (vp_updL (vp_updL t.2.1 (am t.2.1 (n - 1)) ((t.2.1 (am t.2.1 (n - 1))) + (pay t.2.1 (am t.2.1 (n - 1)) (ax t.2.1 (n - 1))))) (ax t.2.1 (n - 1)) (((vp_updL t.2.1 (am t.2.1 (n - 1)) ((t.2.1 (am t.2.1 (n - 1))) + (pay t.2.1 (am t.2.1 (n - 1)) (ax t.2.1 (n - 1))))) (ax t.2.1 (n - 1))) - (pay t.2.1 (am t.2.1 (n - 1)) (ax t.2.1 (n - 1))))) t.2.2.1 t.2.2.2.1 t.2.2.2.2) H := hP
              have hD : va_D A (md_w ad cI cJ 0 n t.1 ki ra (cpy n (fun _ => 0) po) (cpy n (fun q => se q + po q) se) bc bs (vp_updL (vp_updL t.2.1 (am t.2.1 (n - 1)) ((t.2.1 (am t.2.1 (n - 1))) + (pay t.2.1 (am t.2.1 (n - 1)) (ax t.2.1 (n - 1))))) (ax t.2.1 (n - 1)) (((vp_updL t.2.1 (am t.2.1 (n - 1)) ((t.2.1 (am t.2.1 (n - 1))) + (pay t.2.1 (am t.2.1 (n - 1)) (ax t.2.1 (n - 1))))) (ax t.2.1 (n - 1))) - (pay t.2.1 (am t.2.1 (n - 1)) (ax t.2.1 (n - 1))))) t.2.2.1 t.2.2.2.1 t.2.2.2.2) := hD
              refine lv_aload_n hx hb d_M_settle_214 rfl (lv_at hl 2 rfl) ?_
              refine va_get (D := (dC, dI)) (ci := 1) (v := .ref (ad 8)) (C := "ClearingBooksModel") (T := T_M) (N := 13) hx hb hts wi_M hown hK hP 0 rfl rfl 10 (by decide) (hts _ kw_283) (fun _ h9 => h9) rfl d_M_settle_215 ?_
              refine lv_aload_n hx hb d_M_settle_218 rfl (lv_at hl 2 rfl) ?_
              refine va_get (D := (dC, dI)) (ci := 1) (v := .int (nI t.1)) (C := "ClearingBooksModel") (T := T_M) (N := 13) hx hb hts wi_M hown hK hP 0 rfl rfl 9 (by decide) (hts _ kw_282) (fun _ h9 => h9) rfl d_M_settle_219 ?_
              refine lv_iload_n hx hb d_M_settle_222 rfl (lv_at hl 3 rfl) ?_
              refine xa_iastore (f := t.2.2.1) (x := nI (am t.2.1 (n - 1))) hx hb hK hP hD hS 8 0 rfl rfl (j := t.1) (by omega) (by decide) d_M_settle_223 (fun H locs hP hD hS => ?_)
              have hP : va_P (dC, dI) vwCl (md_w ad cI cJ 0 n t.1 ki ra (cpy n (fun _ => 0) po) (cpy n (fun q => se q + po q) se) bc bs (vp_updL (vp_updL t.2.1 (am t.2.1 (n - 1)) ((t.2.1 (am t.2.1 (n - 1))) + (pay t.2.1 (am t.2.1 (n - 1)) (ax t.2.1 (n - 1))))) (ax t.2.1 (n - 1)) (((vp_updL t.2.1 (am t.2.1 (n - 1)) ((t.2.1 (am t.2.1 (n - 1))) + (pay t.2.1 (am t.2.1 (n - 1)) (ax t.2.1 (n - 1))))) (ax t.2.1 (n - 1))) - (pay t.2.1 (am t.2.1 (n - 1)) (ax t.2.1 (n - 1))))) (upd t.2.2.1 t.1 (nI (am t.2.1 (n - 1)))) t.2.2.2.1 t.2.2.2.2) H := hP
              have hD : va_D A (md_w ad cI cJ 0 n t.1 ki ra (cpy n (fun _ => 0) po) (cpy n (fun q => se q + po q) se) bc bs (vp_updL (vp_updL t.2.1 (am t.2.1 (n - 1)) ((t.2.1 (am t.2.1 (n - 1))) + (pay t.2.1 (am t.2.1 (n - 1)) (ax t.2.1 (n - 1))))) (ax t.2.1 (n - 1)) (((vp_updL t.2.1 (am t.2.1 (n - 1)) ((t.2.1 (am t.2.1 (n - 1))) + (pay t.2.1 (am t.2.1 (n - 1)) (ax t.2.1 (n - 1))))) (ax t.2.1 (n - 1))) - (pay t.2.1 (am t.2.1 (n - 1)) (ax t.2.1 (n - 1))))) (upd t.2.2.1 t.1 (nI (am t.2.1 (n - 1)))) t.2.2.2.1 t.2.2.2.2) := hD
              refine lv_aload_n hx hb d_M_settle_224 rfl (lv_at hl 2 rfl) ?_
              refine va_get (D := (dC, dI)) (ci := 1) (v := .ref (ad 9)) (C := "ClearingBooksModel") (T := T_M) (N := 13) hx hb hts wi_M hown hK hP 0 rfl rfl 11 (by decide) (hts _ kw_284) (fun _ h9 => h9) rfl d_M_settle_225 ?_
              refine lv_aload_n hx hb d_M_settle_228 rfl (lv_at hl 2 rfl) ?_
              refine va_get (D := (dC, dI)) (ci := 1) (v := .int (nI t.1)) (C := "ClearingBooksModel") (T := T_M) (N := 13) hx hb hts wi_M hown hK hP 0 rfl rfl 9 (by decide) (hts _ kw_282) (fun _ h9 => h9) rfl d_M_settle_229 ?_
              refine lv_iload_n hx hb d_M_settle_232 rfl (lv_at hl 4 rfl) ?_
              refine xa_iastore (f := t.2.2.2.1) (x := nI (ax t.2.1 (n - 1))) hx hb hK hP hD hS 9 0 rfl rfl (j := t.1) (by omega) (by decide) d_M_settle_233 (fun H locs hP hD hS => ?_)
              have hP : va_P (dC, dI) vwCl (md_w ad cI cJ 0 n t.1 ki ra (cpy n (fun _ => 0) po) (cpy n (fun q => se q + po q) se) bc bs (vp_updL (vp_updL t.2.1 (am t.2.1 (n - 1)) ((t.2.1 (am t.2.1 (n - 1))) + (pay t.2.1 (am t.2.1 (n - 1)) (ax t.2.1 (n - 1))))) (ax t.2.1 (n - 1)) (((vp_updL t.2.1 (am t.2.1 (n - 1)) ((t.2.1 (am t.2.1 (n - 1))) + (pay t.2.1 (am t.2.1 (n - 1)) (ax t.2.1 (n - 1))))) (ax t.2.1 (n - 1))) - (pay t.2.1 (am t.2.1 (n - 1)) (ax t.2.1 (n - 1))))) (upd t.2.2.1 t.1 (nI (am t.2.1 (n - 1)))) (upd t.2.2.2.1 t.1 (nI (ax t.2.1 (n - 1)))) t.2.2.2.2) H := hP
              have hD : va_D A (md_w ad cI cJ 0 n t.1 ki ra (cpy n (fun _ => 0) po) (cpy n (fun q => se q + po q) se) bc bs (vp_updL (vp_updL t.2.1 (am t.2.1 (n - 1)) ((t.2.1 (am t.2.1 (n - 1))) + (pay t.2.1 (am t.2.1 (n - 1)) (ax t.2.1 (n - 1))))) (ax t.2.1 (n - 1)) (((vp_updL t.2.1 (am t.2.1 (n - 1)) ((t.2.1 (am t.2.1 (n - 1))) + (pay t.2.1 (am t.2.1 (n - 1)) (ax t.2.1 (n - 1))))) (ax t.2.1 (n - 1))) - (pay t.2.1 (am t.2.1 (n - 1)) (ax t.2.1 (n - 1))))) (upd t.2.2.1 t.1 (nI (am t.2.1 (n - 1)))) (upd t.2.2.2.1 t.1 (nI (ax t.2.1 (n - 1)))) t.2.2.2.2) := hD
              refine lv_aload_n hx hb d_M_settle_234 rfl (lv_at hl 2 rfl) ?_
              refine va_get (D := (dC, dI)) (ci := 1) (v := .ref (ad 10)) (C := "ClearingBooksModel") (T := T_M) (N := 13) hx hb hts wi_M hown hK hP 0 rfl rfl 12 (by decide) (hts _ kw_285) (fun _ h9 => h9) rfl d_M_settle_235 ?_
              refine lv_aload_n hx hb d_M_settle_238 rfl (lv_at hl 2 rfl) ?_
              refine va_get (D := (dC, dI)) (ci := 1) (v := .int (nI t.1)) (C := "ClearingBooksModel") (T := T_M) (N := 13) hx hb hts wi_M hown hK hP 0 rfl rfl 9 (by decide) (hts _ kw_282) (fun _ h9 => h9) rfl d_M_settle_239 ?_
              refine lv_lload hx hb d_M_settle_242 (lv_at hl 0 rfl) ?_
              refine xa_lastore (f := t.2.2.2.2) (x := pay t.2.1 (am t.2.1 (n - 1)) (ax t.2.1 (n - 1))) hx hb hK hP hD hS 10 1 rfl rfl (j := t.1) (by omega) (by decide) d_M_settle_244 (fun H locs hP hD hS => ?_)
              have hP : va_P (dC, dI) vwCl (md_w ad cI cJ 0 n t.1 ki ra (cpy n (fun _ => 0) po) (cpy n (fun q => se q + po q) se) bc bs (vp_updL (vp_updL t.2.1 (am t.2.1 (n - 1)) ((t.2.1 (am t.2.1 (n - 1))) + (pay t.2.1 (am t.2.1 (n - 1)) (ax t.2.1 (n - 1))))) (ax t.2.1 (n - 1)) (((vp_updL t.2.1 (am t.2.1 (n - 1)) ((t.2.1 (am t.2.1 (n - 1))) + (pay t.2.1 (am t.2.1 (n - 1)) (ax t.2.1 (n - 1))))) (ax t.2.1 (n - 1))) - (pay t.2.1 (am t.2.1 (n - 1)) (ax t.2.1 (n - 1))))) (upd t.2.2.1 t.1 (nI (am t.2.1 (n - 1)))) (upd t.2.2.2.1 t.1 (nI (ax t.2.1 (n - 1)))) (vp_updL t.2.2.2.2 t.1 (pay t.2.1 (am t.2.1 (n - 1)) (ax t.2.1 (n - 1))))) H := hP
              have hD : va_D A (md_w ad cI cJ 0 n t.1 ki ra (cpy n (fun _ => 0) po) (cpy n (fun q => se q + po q) se) bc bs (vp_updL (vp_updL t.2.1 (am t.2.1 (n - 1)) ((t.2.1 (am t.2.1 (n - 1))) + (pay t.2.1 (am t.2.1 (n - 1)) (ax t.2.1 (n - 1))))) (ax t.2.1 (n - 1)) (((vp_updL t.2.1 (am t.2.1 (n - 1)) ((t.2.1 (am t.2.1 (n - 1))) + (pay t.2.1 (am t.2.1 (n - 1)) (ax t.2.1 (n - 1))))) (ax t.2.1 (n - 1))) - (pay t.2.1 (am t.2.1 (n - 1)) (ax t.2.1 (n - 1))))) (upd t.2.2.1 t.1 (nI (am t.2.1 (n - 1)))) (upd t.2.2.2.1 t.1 (nI (ax t.2.1 (n - 1)))) (vp_updL t.2.2.2.2 t.1 (pay t.2.1 (am t.2.1 (n - 1)) (ax t.2.1 (n - 1))))) := hD
              refine lv_aload_n hx hb d_M_settle_245 rfl (lv_at hl 2 rfl) ?_
              refine lv_dup hx hb d_M_settle_246 rfl ?_
              refine va_get (D := (dC, dI)) (ci := 1) (v := .int (nI t.1)) (C := "ClearingBooksModel") (T := T_M) (N := 13) hx hb hts wi_M hown hK hP 0 rfl rfl 9 (by decide) (hts _ kw_282) (fun _ h9 => h9) rfl d_M_settle_247 ?_
              refine lv_iconst (v := nI 1) hx hb d_M_settle_250 (by decide) ?_
              refine t_iadd hx hb d_M_settle_251 (v := nI (t.1 + 1)) (nI_add t.1 1) ?_
              refine va_put (D := (dC, dI)) (ci := 1) (v := .int (nI (t.1 + 1))) (ty := .int) (C := "ClearingBooksModel") (T := T_M) (N := 13) hx hb hts wi_M ty_M tyok_M nm_M hown hK hP hD hS 0 rfl rfl 9 (by decide) (hts _ kw_282) (fun _ h9 => h9) rfl (by decide +kernel) rfl rfl (Nat.le_of_ble_eq_true rfl) d_M_settle_252 (fun H locs hP hD hS => ?_)
              have hP : va_P (dC, dI) vwCl (md_w ad cI cJ 0 n (t.1 + 1) ki ra (cpy n (fun _ => 0) po) (cpy n (fun q => se q + po q) se) bc bs (vp_updL (vp_updL t.2.1 (am t.2.1 (n - 1)) ((t.2.1 (am t.2.1 (n - 1))) + (pay t.2.1 (am t.2.1 (n - 1)) (ax t.2.1 (n - 1))))) (ax t.2.1 (n - 1)) (((vp_updL t.2.1 (am t.2.1 (n - 1)) ((t.2.1 (am t.2.1 (n - 1))) + (pay t.2.1 (am t.2.1 (n - 1)) (ax t.2.1 (n - 1))))) (ax t.2.1 (n - 1))) - (pay t.2.1 (am t.2.1 (n - 1)) (ax t.2.1 (n - 1))))) (upd t.2.2.1 t.1 (nI (am t.2.1 (n - 1)))) (upd t.2.2.2.1 t.1 (nI (ax t.2.1 (n - 1)))) (vp_updL t.2.2.2.2 t.1 (pay t.2.1 (am t.2.1 (n - 1)) (ax t.2.1 (n - 1))))) H := hP
              have hD : va_D A (md_w ad cI cJ 0 n (t.1 + 1) ki ra (cpy n (fun _ => 0) po) (cpy n (fun q => se q + po q) se) bc bs (vp_updL (vp_updL t.2.1 (am t.2.1 (n - 1)) ((t.2.1 (am t.2.1 (n - 1))) + (pay t.2.1 (am t.2.1 (n - 1)) (ax t.2.1 (n - 1))))) (ax t.2.1 (n - 1)) (((vp_updL t.2.1 (am t.2.1 (n - 1)) ((t.2.1 (am t.2.1 (n - 1))) + (pay t.2.1 (am t.2.1 (n - 1)) (ax t.2.1 (n - 1))))) (ax t.2.1 (n - 1))) - (pay t.2.1 (am t.2.1 (n - 1)) (ax t.2.1 (n - 1))))) (upd t.2.2.1 t.1 (nI (am t.2.1 (n - 1)))) (upd t.2.2.2.1 t.1 (nI (ax t.2.1 (n - 1)))) (vp_updL t.2.2.2.2 t.1 (pay t.2.1 (am t.2.1 (n - 1)) (ax t.2.1 (n - 1))))) := hD
              refine lv_goto (tgt := 62) hx hb d_M_settle_255 (by decide) ?_
              exact ih (tr1 n t) H locs ls _ (by show t.1 + 1 + k = 14; omega) hF b1 b2 (by show cz (aft _ _ _) n ≤ k + 1; omega) hP hD hS (lv_sub (l' := [(0, .ref (ad 0)), (1, .int (nI 1))]) hl [2, 1] rfl)
            · replace c74 := mt (lg_cmp_ge _ _).mpr c74
              refine lv_aload_n hx hb d_M_settle_174 rfl (lv_at hl 1 rfl) ?_
              refine va_get (D := (dC, dI)) (ci := 1) (v := .ref (ad 7)) (C := "ClearingBooksModel") (T := T_M) (N := 13) hx hb hts wi_M hown hK hP 0 rfl rfl 8 (by decide) (hts _ kw_281) (fun _ h9 => h9) rfl d_M_settle_175 ?_
              refine lv_iload_n hx hb d_M_settle_178 rfl (lv_at hl 2 rfl) ?_
              refine xa_laload (f := t.2.1) hx hb hK hP 7 1 rfl rfl (j := am t.2.1 (n - 1)) (by omega) (by decide) d_M_settle_179 ?_
              refine lv_lneg hx hb d_M_settle_180 ?_
              refine lv_goto (tgt := 190) hx hb d_M_settle_181 (by decide) ?_
              refine lv_topl (fun v9 e9 => ?_)
              obtain rfl : v9 = pay t.2.1 (am t.2.1 (n - 1)) (ax t.2.1 (n - 1)) := by rw [e9]; first | exact pay_of (by assumption) | exact pay_of2 (by assumption)
              refine lv_lstore (lv' := [(4, .long (pay t.2.1 (am t.2.1 (n - 1)) (ax t.2.1 (n - 1)))), (1, .int (nI 1)), (0, .ref (ad 0)), (2, .int (nI (am t.2.1 (n - 1)))), (3, .int (nI (ax t.2.1 (n - 1))))]) hx hb d_M_settle_190 hl (by decide) rfl (fun ls hl => ?_)
              refine lv_aload_n hx hb d_M_settle_192 rfl (lv_at hl 2 rfl) ?_
              refine va_get (D := (dC, dI)) (ci := 1) (v := .ref (ad 7)) (C := "ClearingBooksModel") (T := T_M) (N := 13) hx hb hts wi_M hown hK hP 0 rfl rfl 8 (by decide) (hts _ kw_281) (fun _ h9 => h9) rfl d_M_settle_193 ?_
              refine lv_iload_n hx hb d_M_settle_196 rfl (lv_at hl 3 rfl) ?_
              refine lv_dup2_11 hx hb d_M_settle_197 rfl rfl ?_
              refine xa_laload (f := t.2.1) hx hb hK hP 7 1 rfl rfl (j := am t.2.1 (n - 1)) (by omega) (by decide) d_M_settle_198 ?_
              refine lv_lload hx hb d_M_settle_199 (lv_at hl 0 rfl) ?_
              refine lv_ladd hx hb d_M_settle_201 ?_
              refine xa_lastore (f := t.2.1) (x := (t.2.1 (am t.2.1 (n - 1))) + (pay t.2.1 (am t.2.1 (n - 1)) (ax t.2.1 (n - 1)))) hx hb hK hP hD hS 7 1 rfl rfl (j := am t.2.1 (n - 1)) (by omega) (by decide) d_M_settle_202 (fun H locs hP hD hS => ?_)
              have hP : va_P (dC, dI) vwCl (md_w ad cI cJ 0 n t.1 ki ra (cpy n (fun _ => 0) po) (cpy n (fun q => se q + po q) se) bc bs (vp_updL t.2.1 (am t.2.1 (n - 1)) ((t.2.1 (am t.2.1 (n - 1))) + (pay t.2.1 (am t.2.1 (n - 1)) (ax t.2.1 (n - 1))))) t.2.2.1 t.2.2.2.1 t.2.2.2.2) H := hP
              have hD : va_D A (md_w ad cI cJ 0 n t.1 ki ra (cpy n (fun _ => 0) po) (cpy n (fun q => se q + po q) se) bc bs (vp_updL t.2.1 (am t.2.1 (n - 1)) ((t.2.1 (am t.2.1 (n - 1))) + (pay t.2.1 (am t.2.1 (n - 1)) (ax t.2.1 (n - 1))))) t.2.2.1 t.2.2.2.1 t.2.2.2.2) := hD
              refine lv_aload_n hx hb d_M_settle_203 rfl (lv_at hl 2 rfl) ?_
              refine va_get (D := (dC, dI)) (ci := 1) (v := .ref (ad 7)) (C := "ClearingBooksModel") (T := T_M) (N := 13) hx hb hts wi_M hown hK hP 0 rfl rfl 8 (by decide) (hts _ kw_281) (fun _ h9 => h9) rfl d_M_settle_204 ?_
              refine lv_iload_n hx hb d_M_settle_207 rfl (lv_at hl 4 rfl) ?_
              refine lv_dup2_11 hx hb d_M_settle_208 rfl rfl ?_
              refine xa_laload (f := vp_updL t.2.1 (am t.2.1 (n - 1)) ((t.2.1 (am t.2.1 (n - 1))) + (pay t.2.1 (am t.2.1 (n - 1)) (ax t.2.1 (n - 1))))) hx hb hK hP 7 1 rfl rfl (j := ax t.2.1 (n - 1)) (by omega) (by decide) d_M_settle_209 ?_
              refine lv_lload hx hb d_M_settle_210 (lv_at hl 0 rfl) ?_
              refine lv_lsub hx hb d_M_settle_212 ?_
              refine xa_lastore (f := vp_updL t.2.1 (am t.2.1 (n - 1)) ((t.2.1 (am t.2.1 (n - 1))) + (pay t.2.1 (am t.2.1 (n - 1)) (ax t.2.1 (n - 1))))) (x := ((vp_updL t.2.1 (am t.2.1 (n - 1)) ((t.2.1 (am t.2.1 (n - 1))) + (pay t.2.1 (am t.2.1 (n - 1)) (ax t.2.1 (n - 1))))) (ax t.2.1 (n - 1))) - (pay t.2.1 (am t.2.1 (n - 1)) (ax t.2.1 (n - 1)))) hx hb hK hP hD hS 7 1 rfl rfl (j := ax t.2.1 (n - 1)) (by omega) (by decide) d_M_settle_213 (fun H locs hP hD hS => ?_)
              have hP : va_P (dC, dI) vwCl (md_w ad cI cJ 0 n t.1 ki ra (cpy n (fun _ => 0) po) (cpy n (fun q => se q + po q) se) bc bs (vp_updL (vp_updL t.2.1 (am t.2.1 (n - 1)) ((t.2.1 (am t.2.1 (n - 1))) + (pay t.2.1 (am t.2.1 (n - 1)) (ax t.2.1 (n - 1))))) (ax t.2.1 (n - 1)) (((vp_updL t.2.1 (am t.2.1 (n - 1)) ((t.2.1 (am t.2.1 (n - 1))) + (pay t.2.1 (am t.2.1 (n - 1)) (ax t.2.1 (n - 1))))) (ax t.2.1 (n - 1))) - (pay t.2.1 (am t.2.1 (n - 1)) (ax t.2.1 (n - 1))))) t.2.2.1 t.2.2.2.1 t.2.2.2.2) H := hP
              have hD : va_D A (md_w ad cI cJ 0 n t.1 ki ra (cpy n (fun _ => 0) po) (cpy n (fun q => se q + po q) se) bc bs (vp_updL (vp_updL t.2.1 (am t.2.1 (n - 1)) ((t.2.1 (am t.2.1 (n - 1))) + (pay t.2.1 (am t.2.1 (n - 1)) (ax t.2.1 (n - 1))))) (ax t.2.1 (n - 1)) (((vp_updL t.2.1 (am t.2.1 (n - 1)) ((t.2.1 (am t.2.1 (n - 1))) + (pay t.2.1 (am t.2.1 (n - 1)) (ax t.2.1 (n - 1))))) (ax t.2.1 (n - 1))) - (pay t.2.1 (am t.2.1 (n - 1)) (ax t.2.1 (n - 1))))) t.2.2.1 t.2.2.2.1 t.2.2.2.2) := hD
              refine lv_aload_n hx hb d_M_settle_214 rfl (lv_at hl 2 rfl) ?_
              refine va_get (D := (dC, dI)) (ci := 1) (v := .ref (ad 8)) (C := "ClearingBooksModel") (T := T_M) (N := 13) hx hb hts wi_M hown hK hP 0 rfl rfl 10 (by decide) (hts _ kw_283) (fun _ h9 => h9) rfl d_M_settle_215 ?_
              refine lv_aload_n hx hb d_M_settle_218 rfl (lv_at hl 2 rfl) ?_
              refine va_get (D := (dC, dI)) (ci := 1) (v := .int (nI t.1)) (C := "ClearingBooksModel") (T := T_M) (N := 13) hx hb hts wi_M hown hK hP 0 rfl rfl 9 (by decide) (hts _ kw_282) (fun _ h9 => h9) rfl d_M_settle_219 ?_
              refine lv_iload_n hx hb d_M_settle_222 rfl (lv_at hl 3 rfl) ?_
              refine xa_iastore (f := t.2.2.1) (x := nI (am t.2.1 (n - 1))) hx hb hK hP hD hS 8 0 rfl rfl (j := t.1) (by omega) (by decide) d_M_settle_223 (fun H locs hP hD hS => ?_)
              have hP : va_P (dC, dI) vwCl (md_w ad cI cJ 0 n t.1 ki ra (cpy n (fun _ => 0) po) (cpy n (fun q => se q + po q) se) bc bs (vp_updL (vp_updL t.2.1 (am t.2.1 (n - 1)) ((t.2.1 (am t.2.1 (n - 1))) + (pay t.2.1 (am t.2.1 (n - 1)) (ax t.2.1 (n - 1))))) (ax t.2.1 (n - 1)) (((vp_updL t.2.1 (am t.2.1 (n - 1)) ((t.2.1 (am t.2.1 (n - 1))) + (pay t.2.1 (am t.2.1 (n - 1)) (ax t.2.1 (n - 1))))) (ax t.2.1 (n - 1))) - (pay t.2.1 (am t.2.1 (n - 1)) (ax t.2.1 (n - 1))))) (upd t.2.2.1 t.1 (nI (am t.2.1 (n - 1)))) t.2.2.2.1 t.2.2.2.2) H := hP
              have hD : va_D A (md_w ad cI cJ 0 n t.1 ki ra (cpy n (fun _ => 0) po) (cpy n (fun q => se q + po q) se) bc bs (vp_updL (vp_updL t.2.1 (am t.2.1 (n - 1)) ((t.2.1 (am t.2.1 (n - 1))) + (pay t.2.1 (am t.2.1 (n - 1)) (ax t.2.1 (n - 1))))) (ax t.2.1 (n - 1)) (((vp_updL t.2.1 (am t.2.1 (n - 1)) ((t.2.1 (am t.2.1 (n - 1))) + (pay t.2.1 (am t.2.1 (n - 1)) (ax t.2.1 (n - 1))))) (ax t.2.1 (n - 1))) - (pay t.2.1 (am t.2.1 (n - 1)) (ax t.2.1 (n - 1))))) (upd t.2.2.1 t.1 (nI (am t.2.1 (n - 1)))) t.2.2.2.1 t.2.2.2.2) := hD
              refine lv_aload_n hx hb d_M_settle_224 rfl (lv_at hl 2 rfl) ?_
              refine va_get (D := (dC, dI)) (ci := 1) (v := .ref (ad 9)) (C := "ClearingBooksModel") (T := T_M) (N := 13) hx hb hts wi_M hown hK hP 0 rfl rfl 11 (by decide) (hts _ kw_284) (fun _ h9 => h9) rfl d_M_settle_225 ?_
              refine lv_aload_n hx hb d_M_settle_228 rfl (lv_at hl 2 rfl) ?_
              refine va_get (D := (dC, dI)) (ci := 1) (v := .int (nI t.1)) (C := "ClearingBooksModel") (T := T_M) (N := 13) hx hb hts wi_M hown hK hP 0 rfl rfl 9 (by decide) (hts _ kw_282) (fun _ h9 => h9) rfl d_M_settle_229 ?_
              refine lv_iload_n hx hb d_M_settle_232 rfl (lv_at hl 4 rfl) ?_
              refine xa_iastore (f := t.2.2.2.1) (x := nI (ax t.2.1 (n - 1))) hx hb hK hP hD hS 9 0 rfl rfl (j := t.1) (by omega) (by decide) d_M_settle_233 (fun H locs hP hD hS => ?_)
              have hP : va_P (dC, dI) vwCl (md_w ad cI cJ 0 n t.1 ki ra (cpy n (fun _ => 0) po) (cpy n (fun q => se q + po q) se) bc bs (vp_updL (vp_updL t.2.1 (am t.2.1 (n - 1)) ((t.2.1 (am t.2.1 (n - 1))) + (pay t.2.1 (am t.2.1 (n - 1)) (ax t.2.1 (n - 1))))) (ax t.2.1 (n - 1)) (((vp_updL t.2.1 (am t.2.1 (n - 1)) ((t.2.1 (am t.2.1 (n - 1))) + (pay t.2.1 (am t.2.1 (n - 1)) (ax t.2.1 (n - 1))))) (ax t.2.1 (n - 1))) - (pay t.2.1 (am t.2.1 (n - 1)) (ax t.2.1 (n - 1))))) (upd t.2.2.1 t.1 (nI (am t.2.1 (n - 1)))) (upd t.2.2.2.1 t.1 (nI (ax t.2.1 (n - 1)))) t.2.2.2.2) H := hP
              have hD : va_D A (md_w ad cI cJ 0 n t.1 ki ra (cpy n (fun _ => 0) po) (cpy n (fun q => se q + po q) se) bc bs (vp_updL (vp_updL t.2.1 (am t.2.1 (n - 1)) ((t.2.1 (am t.2.1 (n - 1))) + (pay t.2.1 (am t.2.1 (n - 1)) (ax t.2.1 (n - 1))))) (ax t.2.1 (n - 1)) (((vp_updL t.2.1 (am t.2.1 (n - 1)) ((t.2.1 (am t.2.1 (n - 1))) + (pay t.2.1 (am t.2.1 (n - 1)) (ax t.2.1 (n - 1))))) (ax t.2.1 (n - 1))) - (pay t.2.1 (am t.2.1 (n - 1)) (ax t.2.1 (n - 1))))) (upd t.2.2.1 t.1 (nI (am t.2.1 (n - 1)))) (upd t.2.2.2.1 t.1 (nI (ax t.2.1 (n - 1)))) t.2.2.2.2) := hD
              refine lv_aload_n hx hb d_M_settle_234 rfl (lv_at hl 2 rfl) ?_
              refine va_get (D := (dC, dI)) (ci := 1) (v := .ref (ad 10)) (C := "ClearingBooksModel") (T := T_M) (N := 13) hx hb hts wi_M hown hK hP 0 rfl rfl 12 (by decide) (hts _ kw_285) (fun _ h9 => h9) rfl d_M_settle_235 ?_
              refine lv_aload_n hx hb d_M_settle_238 rfl (lv_at hl 2 rfl) ?_
              refine va_get (D := (dC, dI)) (ci := 1) (v := .int (nI t.1)) (C := "ClearingBooksModel") (T := T_M) (N := 13) hx hb hts wi_M hown hK hP 0 rfl rfl 9 (by decide) (hts _ kw_282) (fun _ h9 => h9) rfl d_M_settle_239 ?_
              refine lv_lload hx hb d_M_settle_242 (lv_at hl 0 rfl) ?_
              refine xa_lastore (f := t.2.2.2.2) (x := pay t.2.1 (am t.2.1 (n - 1)) (ax t.2.1 (n - 1))) hx hb hK hP hD hS 10 1 rfl rfl (j := t.1) (by omega) (by decide) d_M_settle_244 (fun H locs hP hD hS => ?_)
              have hP : va_P (dC, dI) vwCl (md_w ad cI cJ 0 n t.1 ki ra (cpy n (fun _ => 0) po) (cpy n (fun q => se q + po q) se) bc bs (vp_updL (vp_updL t.2.1 (am t.2.1 (n - 1)) ((t.2.1 (am t.2.1 (n - 1))) + (pay t.2.1 (am t.2.1 (n - 1)) (ax t.2.1 (n - 1))))) (ax t.2.1 (n - 1)) (((vp_updL t.2.1 (am t.2.1 (n - 1)) ((t.2.1 (am t.2.1 (n - 1))) + (pay t.2.1 (am t.2.1 (n - 1)) (ax t.2.1 (n - 1))))) (ax t.2.1 (n - 1))) - (pay t.2.1 (am t.2.1 (n - 1)) (ax t.2.1 (n - 1))))) (upd t.2.2.1 t.1 (nI (am t.2.1 (n - 1)))) (upd t.2.2.2.1 t.1 (nI (ax t.2.1 (n - 1)))) (vp_updL t.2.2.2.2 t.1 (pay t.2.1 (am t.2.1 (n - 1)) (ax t.2.1 (n - 1))))) H := hP
              have hD : va_D A (md_w ad cI cJ 0 n t.1 ki ra (cpy n (fun _ => 0) po) (cpy n (fun q => se q + po q) se) bc bs (vp_updL (vp_updL t.2.1 (am t.2.1 (n - 1)) ((t.2.1 (am t.2.1 (n - 1))) + (pay t.2.1 (am t.2.1 (n - 1)) (ax t.2.1 (n - 1))))) (ax t.2.1 (n - 1)) (((vp_updL t.2.1 (am t.2.1 (n - 1)) ((t.2.1 (am t.2.1 (n - 1))) + (pay t.2.1 (am t.2.1 (n - 1)) (ax t.2.1 (n - 1))))) (ax t.2.1 (n - 1))) - (pay t.2.1 (am t.2.1 (n - 1)) (ax t.2.1 (n - 1))))) (upd t.2.2.1 t.1 (nI (am t.2.1 (n - 1)))) (upd t.2.2.2.1 t.1 (nI (ax t.2.1 (n - 1)))) (vp_updL t.2.2.2.2 t.1 (pay t.2.1 (am t.2.1 (n - 1)) (ax t.2.1 (n - 1))))) := hD
              refine lv_aload_n hx hb d_M_settle_245 rfl (lv_at hl 2 rfl) ?_
              refine lv_dup hx hb d_M_settle_246 rfl ?_
              refine va_get (D := (dC, dI)) (ci := 1) (v := .int (nI t.1)) (C := "ClearingBooksModel") (T := T_M) (N := 13) hx hb hts wi_M hown hK hP 0 rfl rfl 9 (by decide) (hts _ kw_282) (fun _ h9 => h9) rfl d_M_settle_247 ?_
              refine lv_iconst (v := nI 1) hx hb d_M_settle_250 (by decide) ?_
              refine t_iadd hx hb d_M_settle_251 (v := nI (t.1 + 1)) (nI_add t.1 1) ?_
              refine va_put (D := (dC, dI)) (ci := 1) (v := .int (nI (t.1 + 1))) (ty := .int) (C := "ClearingBooksModel") (T := T_M) (N := 13) hx hb hts wi_M ty_M tyok_M nm_M hown hK hP hD hS 0 rfl rfl 9 (by decide) (hts _ kw_282) (fun _ h9 => h9) rfl (by decide +kernel) rfl rfl (Nat.le_of_ble_eq_true rfl) d_M_settle_252 (fun H locs hP hD hS => ?_)
              have hP : va_P (dC, dI) vwCl (md_w ad cI cJ 0 n (t.1 + 1) ki ra (cpy n (fun _ => 0) po) (cpy n (fun q => se q + po q) se) bc bs (vp_updL (vp_updL t.2.1 (am t.2.1 (n - 1)) ((t.2.1 (am t.2.1 (n - 1))) + (pay t.2.1 (am t.2.1 (n - 1)) (ax t.2.1 (n - 1))))) (ax t.2.1 (n - 1)) (((vp_updL t.2.1 (am t.2.1 (n - 1)) ((t.2.1 (am t.2.1 (n - 1))) + (pay t.2.1 (am t.2.1 (n - 1)) (ax t.2.1 (n - 1))))) (ax t.2.1 (n - 1))) - (pay t.2.1 (am t.2.1 (n - 1)) (ax t.2.1 (n - 1))))) (upd t.2.2.1 t.1 (nI (am t.2.1 (n - 1)))) (upd t.2.2.2.1 t.1 (nI (ax t.2.1 (n - 1)))) (vp_updL t.2.2.2.2 t.1 (pay t.2.1 (am t.2.1 (n - 1)) (ax t.2.1 (n - 1))))) H := hP
              have hD : va_D A (md_w ad cI cJ 0 n (t.1 + 1) ki ra (cpy n (fun _ => 0) po) (cpy n (fun q => se q + po q) se) bc bs (vp_updL (vp_updL t.2.1 (am t.2.1 (n - 1)) ((t.2.1 (am t.2.1 (n - 1))) + (pay t.2.1 (am t.2.1 (n - 1)) (ax t.2.1 (n - 1))))) (ax t.2.1 (n - 1)) (((vp_updL t.2.1 (am t.2.1 (n - 1)) ((t.2.1 (am t.2.1 (n - 1))) + (pay t.2.1 (am t.2.1 (n - 1)) (ax t.2.1 (n - 1))))) (ax t.2.1 (n - 1))) - (pay t.2.1 (am t.2.1 (n - 1)) (ax t.2.1 (n - 1))))) (upd t.2.2.1 t.1 (nI (am t.2.1 (n - 1)))) (upd t.2.2.2.1 t.1 (nI (ax t.2.1 (n - 1)))) (vp_updL t.2.2.2.2 t.1 (pay t.2.1 (am t.2.1 (n - 1)) (ax t.2.1 (n - 1))))) := hD
              refine lv_goto (tgt := 62) hx hb d_M_settle_255 (by decide) ?_
              exact ih (tr1 n t) H locs ls _ (by show t.1 + 1 + k = 14; omega) hF b1 b2 (by show cz (aft _ _ _) n ≤ k + 1; omega) hP hD hS (lv_sub (l' := [(0, .ref (ad 0)), (1, .int (nI 1))]) hl [2, 1] rfl)
      have inner : ∀ (k2 i : Nat) (ls : Array Slot), i + 1 + k2 = n → lv_has ls 6 [(0, .ref (ad 0)), (1, .int (nI 1)), (2, .int (nI (am t.2.1 i))), (3, .int (nI (ax t.2.1 i))), (4, .int (nI (i + 1)))] → W p l e (headSpec (.code y_M_settle b_M_settle 6 (some .int) :: wAll) ({ frames := 0, cells := 0, slots := 0, locals := 0 } : Room)).room s m ([.ref (ad 0)] : List Value).toArray below meth c H locs 0 0 (MQ below (va_Qi (fun (z : Int32) (_ : Unit) => z = nI (trs n 14 (0, cpy n po op, pr, pe, pm)).1) (mu_B (dC, dI) vwCl [(cI, .int), (cJ, .long)] A (md_w ad cI cJ 0 n ((trs n 14 (0, cpy n po op, pr, pe, pm)).1) ki ra (cpy n (fun _ => 0) po) (cpy n (fun q => se q + po q) se) bc bs ((trs n 14 (0, cpy n po op, pr, pe, pm)).2.1) ((trs n 14 (0, cpy n po op, pr, pe, pm)).2.2.1) ((trs n 14 (0, cpy n po op, pr, pe, pm)).2.2.2.1) ((trs n 14 (0, cpy n po op, pr, pe, pm)).2.2.2.2))) A) ([.ref (ad 0)] : List Value).toArray s 0 0 A) (F0 m 73 ls []) := by
        intro k2
        induction k2 with
        | zero =>
          intro i ls hi hl
          have h5 := am_le t.2.1 i
          have h6 := ax_le t.2.1 i
          refine lv_iload hx hb d_M_settle_73 (lv_at hl 4 rfl) ?_
          refine lv_aload_n hx hb d_M_settle_75 rfl (lv_at hl 0 rfl) ?_
          refine va_get (D := (dC, dI)) (ci := 1) (v := .int (nI n)) (C := "ClearingBooksModel") (T := T_M) (N := 13) hx hb hts wi_M hown hK hP 0 rfl rfl 1 (by decide) (hts _ kw_274) (fun _ h9 => h9) rfl d_M_settle_76 ?_
          refine lv_icmp_ge (tgt := 136) hx hb d_M_settle_79 (by decide) (fun c91 => ?_) (fun c91 => ?_)
          · replace c91 := (nI_leI (by omega) (by omega)).mp c91
            obtain rfl : n = i + 1 := by omega
            exact tail ls (lv_sub hl [0, 1, 2, 3, 4] rfl)
          · replace c91 := mt (nI_leI (by omega) (by omega)).mpr c91
            exfalso; omega
        | succ k2 ih2 =>
          intro i ls hi hl
          have h5 := am_le t.2.1 i
          have h6 := ax_le t.2.1 i
          refine lv_iload hx hb d_M_settle_73 (lv_at hl 4 rfl) ?_
          refine lv_aload_n hx hb d_M_settle_75 rfl (lv_at hl 0 rfl) ?_
          refine va_get (D := (dC, dI)) (ci := 1) (v := .int (nI n)) (C := "ClearingBooksModel") (T := T_M) (N := 13) hx hb hts wi_M hown hK hP 0 rfl rfl 1 (by decide) (hts _ kw_274) (fun _ h9 => h9) rfl d_M_settle_76 ?_
          refine lv_icmp_ge (tgt := 136) hx hb d_M_settle_79 (by decide) (fun c91 => ?_) (fun c91 => ?_)
          · replace c91 := (nI_leI (by omega) (by omega)).mp c91
            exfalso; omega
          · replace c91 := mt (nI_leI (by omega) (by omega)).mpr c91
            refine lv_aload_n hx hb d_M_settle_82 rfl (lv_at hl 0 rfl) ?_
            refine va_get (D := (dC, dI)) (ci := 1) (v := .ref (ad 7)) (C := "ClearingBooksModel") (T := T_M) (N := 13) hx hb hts wi_M hown hK hP 0 rfl rfl 8 (by decide) (hts _ kw_281) (fun _ h9 => h9) rfl d_M_settle_83 ?_
            refine lv_iload hx hb d_M_settle_86 (lv_at hl 4 rfl) ?_
            refine xa_laload (f := t.2.1) hx hb hK hP 7 1 rfl rfl (j := i + 1) (by omega) (by decide) d_M_settle_88 ?_
            refine lv_aload_n hx hb d_M_settle_89 rfl (lv_at hl 0 rfl) ?_
            refine va_get (D := (dC, dI)) (ci := 1) (v := .ref (ad 7)) (C := "ClearingBooksModel") (T := T_M) (N := 13) hx hb hts wi_M hown hK hP 0 rfl rfl 8 (by decide) (hts _ kw_281) (fun _ h9 => h9) rfl d_M_settle_90 ?_
            refine lv_iload_n hx hb d_M_settle_93 rfl (lv_at hl 2 rfl) ?_
            refine xa_laload (f := t.2.1) hx hb hK hP 7 1 rfl rfl (j := am t.2.1 i) (by omega) (by decide) d_M_settle_94 ?_
            refine W.lcmp hx hb d_M_settle_95 ?_
            refine lv_if_ge (tgt := 104) hx hb d_M_settle_96 (by decide) (fun c92 => ?_) (fun c92 => ?_)
            · replace c92 := (lg_cmp_ge _ _).mp c92
              refine lv_iload_n hx hb d_M_settle_104 rfl (lv_at hl 2 rfl) ?_
              refine lv_istore_n (lv' := [(2, .int (nI (am t.2.1 i))), (0, .ref (ad 0)), (1, .int (nI 1)), (3, .int (nI (ax t.2.1 i))), (4, .int (nI (i + 1)))]) hx hb d_M_settle_105 rfl hl (by decide) rfl (fun ls hl => ?_)
              refine lv_aload_n hx hb d_M_settle_106 rfl (lv_at hl 1 rfl) ?_
              refine va_get (D := (dC, dI)) (ci := 1) (v := .ref (ad 7)) (C := "ClearingBooksModel") (T := T_M) (N := 13) hx hb hts wi_M hown hK hP 0 rfl rfl 8 (by decide) (hts _ kw_281) (fun _ h9 => h9) rfl d_M_settle_107 ?_
              refine lv_iload hx hb d_M_settle_110 (lv_at hl 4 rfl) ?_
              refine xa_laload (f := t.2.1) hx hb hK hP 7 1 rfl rfl (j := i + 1) (by omega) (by decide) d_M_settle_112 ?_
              refine lv_aload_n hx hb d_M_settle_113 rfl (lv_at hl 1 rfl) ?_
              refine va_get (D := (dC, dI)) (ci := 1) (v := .ref (ad 7)) (C := "ClearingBooksModel") (T := T_M) (N := 13) hx hb hts wi_M hown hK hP 0 rfl rfl 8 (by decide) (hts _ kw_281) (fun _ h9 => h9) rfl d_M_settle_114 ?_
              refine lv_iload_n hx hb d_M_settle_117 rfl (lv_at hl 3 rfl) ?_
              refine xa_laload (f := t.2.1) hx hb hK hP 7 1 rfl rfl (j := ax t.2.1 i) (by omega) (by decide) d_M_settle_118 ?_
              refine W.lcmp hx hb d_M_settle_119 ?_
              refine lv_if_le (tgt := 128) hx hb d_M_settle_120 (by decide) (fun c93 => ?_) (fun c93 => ?_)
              · replace c93 := (lg_cmp_le _ _).mp c93
                refine lv_iload_n hx hb d_M_settle_128 rfl (lv_at hl 3 rfl) ?_
                refine lv_istore_n (lv' := [(3, .int (nI (ax t.2.1 i))), (2, .int (nI (am t.2.1 i))), (0, .ref (ad 0)), (1, .int (nI 1)), (4, .int (nI (i + 1)))]) hx hb d_M_settle_129 rfl hl (by decide) rfl (fun ls hl => ?_)
                refine lv_iinc (v := nI (i + 1 + 1)) (lv' := [(4, .int (nI (i + 1 + 1))), (3, .int (nI (ax t.2.1 i))), (2, .int (nI (am t.2.1 i))), (0, .ref (ad 0)), (1, .int (nI 1))]) hx hb d_M_settle_130 hl (k := 4) rfl (nI_1 (i + 1)) (by decide) rfl (fun ls hl => ?_)
                refine lv_goto (tgt := 73) hx hb d_M_settle_133 (by decide) ?_
                have ea : am t.2.1 (i + 1) = am t.2.1 i := am_y (by assumption)
                have eb : ax t.2.1 (i + 1) = ax t.2.1 i := ax_y (by assumption)
                exact ih2 (i + 1) ls (by omega) (by rw [ea, eb]; exact lv_sub hl [3, 4, 2, 1, 0] rfl)
              · replace c93 := mt (lg_cmp_le _ _).mpr c93
                refine lv_iload hx hb d_M_settle_123 (lv_at hl 4 rfl) ?_
                refine lv_goto (tgt := 129) hx hb d_M_settle_125 (by decide) ?_
                refine lv_istore_n (lv' := [(3, .int (nI (i + 1))), (2, .int (nI (am t.2.1 i))), (0, .ref (ad 0)), (1, .int (nI 1)), (4, .int (nI (i + 1)))]) hx hb d_M_settle_129 rfl hl (by decide) rfl (fun ls hl => ?_)
                refine lv_iinc (v := nI (i + 1 + 1)) (lv' := [(4, .int (nI (i + 1 + 1))), (3, .int (nI (i + 1))), (2, .int (nI (am t.2.1 i))), (0, .ref (ad 0)), (1, .int (nI 1))]) hx hb d_M_settle_130 hl (k := 4) rfl (nI_1 (i + 1)) (by decide) rfl (fun ls hl => ?_)
                refine lv_goto (tgt := 73) hx hb d_M_settle_133 (by decide) ?_
                have ea : am t.2.1 (i + 1) = am t.2.1 i := am_y (by assumption)
                have eb : ax t.2.1 (i + 1) = i + 1 := ax_n (by assumption)
                exact ih2 (i + 1) ls (by omega) (by rw [ea, eb]; exact lv_sub hl [3, 4, 2, 1, 0] rfl)
            · replace c92 := mt (lg_cmp_ge _ _).mpr c92
              refine lv_iload hx hb d_M_settle_99 (lv_at hl 4 rfl) ?_
              refine lv_goto (tgt := 105) hx hb d_M_settle_101 (by decide) ?_
              refine lv_istore_n (lv' := [(2, .int (nI (i + 1))), (0, .ref (ad 0)), (1, .int (nI 1)), (3, .int (nI (ax t.2.1 i))), (4, .int (nI (i + 1)))]) hx hb d_M_settle_105 rfl hl (by decide) rfl (fun ls hl => ?_)
              refine lv_aload_n hx hb d_M_settle_106 rfl (lv_at hl 1 rfl) ?_
              refine va_get (D := (dC, dI)) (ci := 1) (v := .ref (ad 7)) (C := "ClearingBooksModel") (T := T_M) (N := 13) hx hb hts wi_M hown hK hP 0 rfl rfl 8 (by decide) (hts _ kw_281) (fun _ h9 => h9) rfl d_M_settle_107 ?_
              refine lv_iload hx hb d_M_settle_110 (lv_at hl 4 rfl) ?_
              refine xa_laload (f := t.2.1) hx hb hK hP 7 1 rfl rfl (j := i + 1) (by omega) (by decide) d_M_settle_112 ?_
              refine lv_aload_n hx hb d_M_settle_113 rfl (lv_at hl 1 rfl) ?_
              refine va_get (D := (dC, dI)) (ci := 1) (v := .ref (ad 7)) (C := "ClearingBooksModel") (T := T_M) (N := 13) hx hb hts wi_M hown hK hP 0 rfl rfl 8 (by decide) (hts _ kw_281) (fun _ h9 => h9) rfl d_M_settle_114 ?_
              refine lv_iload_n hx hb d_M_settle_117 rfl (lv_at hl 3 rfl) ?_
              refine xa_laload (f := t.2.1) hx hb hK hP 7 1 rfl rfl (j := ax t.2.1 i) (by omega) (by decide) d_M_settle_118 ?_
              refine W.lcmp hx hb d_M_settle_119 ?_
              refine lv_if_le (tgt := 128) hx hb d_M_settle_120 (by decide) (fun c94 => ?_) (fun c94 => ?_)
              · replace c94 := (lg_cmp_le _ _).mp c94
                refine lv_iload_n hx hb d_M_settle_128 rfl (lv_at hl 3 rfl) ?_
                refine lv_istore_n (lv' := [(3, .int (nI (ax t.2.1 i))), (2, .int (nI (i + 1))), (0, .ref (ad 0)), (1, .int (nI 1)), (4, .int (nI (i + 1)))]) hx hb d_M_settle_129 rfl hl (by decide) rfl (fun ls hl => ?_)
                refine lv_iinc (v := nI (i + 1 + 1)) (lv' := [(4, .int (nI (i + 1 + 1))), (3, .int (nI (ax t.2.1 i))), (2, .int (nI (i + 1))), (0, .ref (ad 0)), (1, .int (nI 1))]) hx hb d_M_settle_130 hl (k := 4) rfl (nI_1 (i + 1)) (by decide) rfl (fun ls hl => ?_)
                refine lv_goto (tgt := 73) hx hb d_M_settle_133 (by decide) ?_
                have ea : am t.2.1 (i + 1) = i + 1 := am_n (by assumption)
                have eb : ax t.2.1 (i + 1) = ax t.2.1 i := ax_y (by assumption)
                exact ih2 (i + 1) ls (by omega) (by rw [ea, eb]; exact lv_sub hl [3, 4, 2, 1, 0] rfl)
              · replace c94 := mt (lg_cmp_le _ _).mpr c94
                refine lv_iload hx hb d_M_settle_123 (lv_at hl 4 rfl) ?_
                refine lv_goto (tgt := 129) hx hb d_M_settle_125 (by decide) ?_
                refine lv_istore_n (lv' := [(3, .int (nI (i + 1))), (2, .int (nI (i + 1))), (0, .ref (ad 0)), (1, .int (nI 1)), (4, .int (nI (i + 1)))]) hx hb d_M_settle_129 rfl hl (by decide) rfl (fun ls hl => ?_)
                refine lv_iinc (v := nI (i + 1 + 1)) (lv' := [(4, .int (nI (i + 1 + 1))), (3, .int (nI (i + 1))), (2, .int (nI (i + 1))), (0, .ref (ad 0)), (1, .int (nI 1))]) hx hb d_M_settle_130 hl (k := 4) rfl (nI_1 (i + 1)) (by decide) rfl (fun ls hl => ?_)
                refine lv_goto (tgt := 73) hx hb d_M_settle_133 (by decide) ?_
                have ea : am t.2.1 (i + 1) = i + 1 := am_n (by assumption)
                have eb : ax t.2.1 (i + 1) = i + 1 := ax_n (by assumption)
                exact ih2 (i + 1) ls (by omega) (by rw [ea, eb]; exact lv_sub hl [3, 4, 2, 1, 0] rfl)
      refine lv_iload_n hx hb d_M_settle_62 rfl (lv_at hl 1 rfl) ?_
      refine lv_if_eq (tgt := 258) hx hb d_M_settle_63 (by decide) (fun c111 => ?_) (fun c111 => ?_)
      · exact absurd c111 (by decide)
      · refine lv_iconst (v := nI 0) hx hb d_M_settle_66 (by decide) ?_
        refine lv_istore_n (lv' := [(2, .int (nI 0)), (0, .ref (ad 0)), (1, .int (nI 1))]) hx hb d_M_settle_67 rfl hl (by decide) rfl (fun ls hl => ?_)
        refine lv_iconst (v := nI 0) hx hb d_M_settle_68 (by decide) ?_
        refine lv_istore_n (lv' := [(3, .int (nI 0)), (2, .int (nI 0)), (0, .ref (ad 0)), (1, .int (nI 1))]) hx hb d_M_settle_69 rfl hl (by decide) rfl (fun ls hl => ?_)
        refine lv_iconst (v := nI 1) hx hb d_M_settle_70 (by decide) ?_
        refine lv_istore (lv' := [(4, .int (nI 1)), (3, .int (nI 0)), (2, .int (nI 0)), (0, .ref (ad 0)), (1, .int (nI 1))]) hx hb d_M_settle_71 hl (by decide) rfl (fun ls hl => ?_)
        exact inner (n - 1) 0 ls (by omega) (lv_sub hl [3, 4, 2, 1, 0] rfl)
  have loop : ∀ (k i : Nat) (H : Heap) (locs : List Loc) (ls : Array Slot), i + k = n → va_P (dC, dI) vwCl (md_w ad cI cJ 0 n tc ki ra (cpy i (fun _ => 0) po) (cpy i (fun q => se q + po q) se) bc bs (cpy i po op) pr pe pm) H → va_D A (md_w ad cI cJ 0 n tc ki ra (cpy i (fun _ => 0) po) (cpy i (fun q => se q + po q) se) bc bs (cpy i po op) pr pe pm) → va_S A s.heap H locs → lv_has ls 6 [(0, .ref (ad 0)), (1, .int (nI i))] → W p l e (headSpec (.code y_M_settle b_M_settle 6 (some .int) :: wAll) ({ frames := 0, cells := 0, slots := 0, locals := 0 } : Room)).room s m ([.ref (ad 0)] : List Value).toArray below meth c H locs 0 0 (MQ below (va_Qi (fun (z : Int32) (_ : Unit) => z = nI (trs n 14 (0, cpy n po op, pr, pe, pm)).1) (mu_B (dC, dI) vwCl [(cI, .int), (cJ, .long)] A (md_w ad cI cJ 0 n ((trs n 14 (0, cpy n po op, pr, pe, pm)).1) ki ra (cpy n (fun _ => 0) po) (cpy n (fun q => se q + po q) se) bc bs ((trs n 14 (0, cpy n po op, pr, pe, pm)).2.1) ((trs n 14 (0, cpy n po op, pr, pe, pm)).2.2.1) ((trs n 14 (0, cpy n po op, pr, pe, pm)).2.2.2.1) ((trs n 14 (0, cpy n po op, pr, pe, pm)).2.2.2.2))) A) ([.ref (ad 0)] : List Value).toArray s 0 0 A) (F0 m 7 ls []) := by
    intro k
    induction k with
    | zero =>
      intro i H locs ls hi hP hD hS hl
      obtain rfl : i = n := by omega
      refine lv_iload_n hx hb d_M_settle_7 rfl (lv_at hl 1 rfl) ?_
      refine lv_aload_n hx hb d_M_settle_8 rfl (lv_at hl 0 rfl) ?_
      refine va_get (D := (dC, dI)) (ci := 1) (v := .int (nI i)) (C := "ClearingBooksModel") (T := T_M) (N := 13) hx hb hts wi_M hown hK hP 0 rfl rfl 1 (by decide) (hts _ kw_274) (fun _ h9 => h9) rfl d_M_settle_9 ?_
      refine lv_icmp_ge (tgt := 55) hx hb d_M_settle_12 (by decide) (fun c51 => ?_) (fun c51 => ?_)
      · replace c51 := (nI_leI (by omega) (by omega)).mp c51
        refine lv_aload_n hx hb d_M_settle_55 rfl (lv_at hl 0 rfl) ?_
        refine lv_iconst (v := nI 0) hx hb d_M_settle_56 (by decide) ?_
        refine va_put (D := (dC, dI)) (ci := 1) (v := .int (nI 0)) (ty := .int) (C := "ClearingBooksModel") (T := T_M) (N := 13) hx hb hts wi_M ty_M tyok_M nm_M hown hK hP hD hS 0 rfl rfl 9 (by decide) (hts _ kw_282) (fun _ h9 => h9) rfl (by decide +kernel) rfl rfl (Nat.le_of_ble_eq_true rfl) d_M_settle_57 (fun H locs hP hD hS => ?_)
        have hP : va_P (dC, dI) vwCl (md_w ad cI cJ 0 i 0 ki ra (cpy i (fun _ => 0) po) (cpy i (fun q => se q + po q) se) bc bs (cpy i po op) pr pe pm) H := hP
        have hD : va_D A (md_w ad cI cJ 0 i 0 ki ra (cpy i (fun _ => 0) po) (cpy i (fun q => se q + po q) se) bc bs (cpy i po op) pr pe pm) := hD
        refine lv_iconst (v := nI 1) hx hb d_M_settle_60 (by decide) ?_
        refine lv_istore_n (lv' := [(1, .int (nI 1)), (0, .ref (ad 0))]) hx hb d_M_settle_61 rfl hl (by decide) rfl (fun ls hl => ?_)
        exact loop2 14 (0, cpy i po op, pr, pe, pm) H locs ls [] rfl rfl (by rw [show (0, cpy i po op, pr, pe, pm).2.1 = cpy i po op from rfl, si_cpy]; exact hsi0) (by intro q hq; rw [show (0, cpy i po op, pr, pe, pm).2.1 = cpy i po op from rfl, cpy_in hq]; exact hsm0 q hq) (by have := cz_le (cpy i po op) i; show cz (cpy i po op) i ≤ 15; omega) hP hD hS (lv_sub hl [1, 0] rfl)
      · replace c51 := mt (nI_leI (by omega) (by omega)).mpr c51
        exfalso; omega
    | succ k ih =>
      intro i H locs ls hi hP hD hS hl
      refine lv_iload_n hx hb d_M_settle_7 rfl (lv_at hl 1 rfl) ?_
      refine lv_aload_n hx hb d_M_settle_8 rfl (lv_at hl 0 rfl) ?_
      refine va_get (D := (dC, dI)) (ci := 1) (v := .int (nI n)) (C := "ClearingBooksModel") (T := T_M) (N := 13) hx hb hts wi_M hown hK hP 0 rfl rfl 1 (by decide) (hts _ kw_274) (fun _ h9 => h9) rfl d_M_settle_9 ?_
      refine lv_icmp_ge (tgt := 55) hx hb d_M_settle_12 (by decide) (fun c51 => ?_) (fun c51 => ?_)
      · replace c51 := (nI_leI (by omega) (by omega)).mp c51
        exfalso; omega
      · replace c51 := mt (nI_leI (by omega) (by omega)).mpr c51
        refine lv_aload_n hx hb d_M_settle_15 rfl (lv_at hl 0 rfl) ?_
        refine va_get (D := (dC, dI)) (ci := 1) (v := .ref (ad 7)) (C := "ClearingBooksModel") (T := T_M) (N := 13) hx hb hts wi_M hown hK hP 0 rfl rfl 8 (by decide) (hts _ kw_281) (fun _ h9 => h9) rfl d_M_settle_16 ?_
        refine lv_iload_n hx hb d_M_settle_19 rfl (lv_at hl 1 rfl) ?_
        refine lv_aload_n hx hb d_M_settle_20 rfl (lv_at hl 0 rfl) ?_
        refine va_get (D := (dC, dI)) (ci := 1) (v := .ref (ad 3)) (C := "ClearingBooksModel") (T := T_M) (N := 13) hx hb hts wi_M hown hK hP 0 rfl rfl 4 (by decide) (hts _ kw_277) (fun _ h9 => h9) rfl d_M_settle_21 ?_
        refine lv_iload_n hx hb d_M_settle_24 rfl (lv_at hl 1 rfl) ?_
        refine xa_laload (f := cpy i (fun _ => 0) po) hx hb hK hP 3 1 rfl rfl (j := i) (by omega) (by decide) d_M_settle_25 ?_
        refine xa_lastore (f := cpy i po op) (x := (cpy i (fun _ => 0) po) i) hx hb hK hP hD hS 7 1 rfl rfl (j := i) (by omega) (by decide) d_M_settle_26 (fun H locs hP hD hS => ?_)
        have hP : va_P (dC, dI) vwCl (md_w ad cI cJ 0 n tc ki ra (cpy i (fun _ => 0) po) (cpy i (fun q => se q + po q) se) bc bs (vp_updL (cpy i po op) i ((cpy i (fun _ => 0) po) i)) pr pe pm) H := hP
        have hD : va_D A (md_w ad cI cJ 0 n tc ki ra (cpy i (fun _ => 0) po) (cpy i (fun q => se q + po q) se) bc bs (vp_updL (cpy i po op) i ((cpy i (fun _ => 0) po) i)) pr pe pm) := hD
        refine lv_aload_n hx hb d_M_settle_27 rfl (lv_at hl 0 rfl) ?_
        refine va_get (D := (dC, dI)) (ci := 1) (v := .ref (ad 4)) (C := "ClearingBooksModel") (T := T_M) (N := 13) hx hb hts wi_M hown hK hP 0 rfl rfl 5 (by decide) (hts _ kw_278) (fun _ h9 => h9) rfl d_M_settle_28 ?_
        refine lv_iload_n hx hb d_M_settle_31 rfl (lv_at hl 1 rfl) ?_
        refine lv_dup2_11 hx hb d_M_settle_32 rfl rfl ?_
        refine xa_laload (f := cpy i (fun q => se q + po q) se) hx hb hK hP 4 1 rfl rfl (j := i) (by omega) (by decide) d_M_settle_33 ?_
        refine lv_aload_n hx hb d_M_settle_34 rfl (lv_at hl 0 rfl) ?_
        refine va_get (D := (dC, dI)) (ci := 1) (v := .ref (ad 3)) (C := "ClearingBooksModel") (T := T_M) (N := 13) hx hb hts wi_M hown hK hP 0 rfl rfl 4 (by decide) (hts _ kw_277) (fun _ h9 => h9) rfl d_M_settle_35 ?_
        refine lv_iload_n hx hb d_M_settle_38 rfl (lv_at hl 1 rfl) ?_
        refine xa_laload (f := cpy i (fun _ => 0) po) hx hb hK hP 3 1 rfl rfl (j := i) (by omega) (by decide) d_M_settle_39 ?_
        refine lv_ladd hx hb d_M_settle_40 ?_
        refine xa_lastore (f := cpy i (fun q => se q + po q) se) (x := ((cpy i (fun q => se q + po q) se) i) + ((cpy i (fun _ => 0) po) i)) hx hb hK hP hD hS 4 1 rfl rfl (j := i) (by omega) (by decide) d_M_settle_41 (fun H locs hP hD hS => ?_)
        have hP : va_P (dC, dI) vwCl (md_w ad cI cJ 0 n tc ki ra (cpy i (fun _ => 0) po) (vp_updL (cpy i (fun q => se q + po q) se) i (((cpy i (fun q => se q + po q) se) i) + ((cpy i (fun _ => 0) po) i))) bc bs (vp_updL (cpy i po op) i ((cpy i (fun _ => 0) po) i)) pr pe pm) H := hP
        have hD : va_D A (md_w ad cI cJ 0 n tc ki ra (cpy i (fun _ => 0) po) (vp_updL (cpy i (fun q => se q + po q) se) i (((cpy i (fun q => se q + po q) se) i) + ((cpy i (fun _ => 0) po) i))) bc bs (vp_updL (cpy i po op) i ((cpy i (fun _ => 0) po) i)) pr pe pm) := hD
        refine lv_aload_n hx hb d_M_settle_42 rfl (lv_at hl 0 rfl) ?_
        refine va_get (D := (dC, dI)) (ci := 1) (v := .ref (ad 3)) (C := "ClearingBooksModel") (T := T_M) (N := 13) hx hb hts wi_M hown hK hP 0 rfl rfl 4 (by decide) (hts _ kw_277) (fun _ h9 => h9) rfl d_M_settle_43 ?_
        refine lv_iload_n hx hb d_M_settle_46 rfl (lv_at hl 1 rfl) ?_
        refine lv_lconst (v := 0) hx hb d_M_settle_47 (by decide) ?_
        refine xa_lastore (f := cpy i (fun _ => 0) po) (x := 0) hx hb hK hP hD hS 3 1 rfl rfl (j := i) (by omega) (by decide) d_M_settle_48 (fun H locs hP hD hS => ?_)
        have hP : va_P (dC, dI) vwCl (md_w ad cI cJ 0 n tc ki ra (vp_updL (cpy i (fun _ => 0) po) i 0) (vp_updL (cpy i (fun q => se q + po q) se) i (((cpy i (fun q => se q + po q) se) i) + ((cpy i (fun _ => 0) po) i))) bc bs (vp_updL (cpy i po op) i ((cpy i (fun _ => 0) po) i)) pr pe pm) H := hP
        have hD : va_D A (md_w ad cI cJ 0 n tc ki ra (vp_updL (cpy i (fun _ => 0) po) i 0) (vp_updL (cpy i (fun q => se q + po q) se) i (((cpy i (fun q => se q + po q) se) i) + ((cpy i (fun _ => 0) po) i))) bc bs (vp_updL (cpy i po op) i ((cpy i (fun _ => 0) po) i)) pr pe pm) := hD
        refine lv_iinc (v := nI (i + 1)) (lv' := [(1, .int (nI (i + 1))), (0, .ref (ad 0))]) hx hb d_M_settle_49 hl (k := 1) rfl (nI_1 i) (by decide) rfl (fun ls hl => ?_)
        refine lv_goto (tgt := 7) hx hb d_M_settle_52 (by decide) ?_
        have e_op : vp_updL (cpy i po op) i ((cpy i (fun _ => 0) po) i) = cpy (i + 1) po op := cpy_up (cpy_at i (fun _ => 0) po)
        have e_se : vp_updL (cpy i (fun q => se q + po q) se) i (((cpy i (fun q => se q + po q) se) i) + ((cpy i (fun _ => 0) po) i)) = cpy (i + 1) (fun q => se q + po q) se := cpy_up (by rw [cpy_at, cpy_at])
        have e_po : vp_updL (cpy i (fun _ => 0) po) i 0 = cpy (i + 1) (fun _ => 0) po := cpy_up (rfl)
        rw [e_op, e_se, e_po] at hP hD
        exact ih (i + 1) H locs ls (by omega) hP hD hS (lv_sub hl [1, 0] rfl)
  have z_op := cpy_0 po op
  have z_se := cpy_0 (fun q => se q + po q) se
  have z_po := cpy_0 (fun _ => (0 : Int64)) po
  exact loop n 0 H locs ls (by omega) (by rw [z_op, z_se, z_po]; exact hP) (by rw [z_op, z_se, z_po]; exact hD) hS (lv_sub hl [1, 0] rfl)
end
section
/-! a world of two parts: a call that works on the one, beside the other -/
section XF
variable {D : va_G} {cl : List vw_C} {A : Nat → Prop} {a b ws wr w1 : va_W} {H H1 : Heap}
theorem at_l {k : Nat} {q : Nat × va_E} (h : a[k]? = some q) : (a ++ b)[k]? = some q := by
  rw [List.getElem?_append_left (List.getElem?_eq_some_iff.mp h).1]; exact h
theorem at_r {k : Nat} {q : Nat × va_E} (h : b[k]? = some q) : (a ++ b)[a.length + k]? = some q := by
  rw [List.getElem?_append_right (by omega)]
  simpa using h
theorem P_l (h : va_P D cl (a ++ b) H) : va_P D cl a H := fun k q hk => h k q (at_l hk)
theorem P_r (h : va_P D cl (a ++ b) H) : va_P D cl b H := fun k q hk => h (a.length + k) q (at_r hk)
theorem D_l (h : va_D A (a ++ b)) : va_D A a := ⟨fun i j p q hp hq e => h.1 i j p q (at_l hp) (at_l hq) e, fun k q hk => h.2 k q (at_l hk)⟩
theorem D_r (h : va_D A (a ++ b)) : va_D A b := ⟨fun i j p q hp hq e => by have := h.1 _ _ p q (at_r hp) (at_r hq) e; omega, fun k q hk => h.2 _ q (at_r hk)⟩
theorem fr_l (hP : va_P D cl (ws ++ wr) H) (hD : va_D A (ws ++ wr)) (hF : ∀ q, va_A ws H.size q → A q) (hk : ∀ q : Nat, q < H.size → ¬ va_A ws H.size q → H1[q]? = H[q]?) (hP1 : va_P D cl w1 H1) (hD1 : va_D (va_A ws H.size) w1) : va_P D cl (w1 ++ wr) H1 ∧ va_D A (w1 ++ wr) := by
  have apart : ∀ (k : Nat) (q : Nat × va_E), wr[k]? = some q → q.1 < H.size ∧ ¬ va_A ws H.size q.1 := by
    intro k q hq
    have hl := (P_r hP k q hq).lt
    refine ⟨hl, fun h => ?_⟩
    rcases h with ⟨k2, e, h⟩ | h
    · have e1 := hD.1 _ _ (q.1, e) q (at_l h) (at_r hq) rfl
      have e2 := (List.getElem?_eq_some_iff.mp h).1
      omega
    · omega
  refine ⟨va_P.app hP1 (fun k q hq => ?_), va_D.app (hD1.weaken (fun k q _ h => hF q.1 h)) (D_r hD) (fun i j x y hx hy hxy => ?_)⟩
  · obtain ⟨g1, g2⟩ := apart k q hq
    exact (P_r hP k q hq).kept (hk q.1 g1 g2)
  · exact (apart j y hy).2 (by rw [← hxy]; exact hD1.2 i x hx)
theorem fr_r (hP : va_P D cl (wr ++ ws) H) (hD : va_D A (wr ++ ws)) (hF : ∀ q, va_A ws H.size q → A q) (hk : ∀ q : Nat, q < H.size → ¬ va_A ws H.size q → H1[q]? = H[q]?) (hP1 : va_P D cl w1 H1) (hD1 : va_D (va_A ws H.size) w1) : va_P D cl (wr ++ w1) H1 ∧ va_D A (wr ++ w1) := by
  have apart : ∀ (k : Nat) (q : Nat × va_E), wr[k]? = some q → q.1 < H.size ∧ ¬ va_A ws H.size q.1 := by
    intro k q hq
    have hl := (P_l hP k q hq).lt
    refine ⟨hl, fun h => ?_⟩
    rcases h with ⟨k2, e, h⟩ | h
    · have e1 := hD.1 _ _ (q.1, e) q (at_r h) (at_l hq) rfl
      have e2 := (List.getElem?_eq_some_iff.mp hq).1
      omega
    · omega
  refine ⟨va_P.app (fun k q hq => ?_) hP1, va_D.app (D_l hD) (hD1.weaken (fun k q _ h => hF q.1 h)) (fun i j x y hx hy hxy => ?_)⟩
  · obtain ⟨g1, g2⟩ := apart k q hq
    exact (P_l hP k q hq).kept (hk q.1 g1 g2)
  · exact (apart i x hx).2 (by rw [hxy]; exact hD1.2 j y hy)
end XF
section XG
variable {p : Program} {l : Launch} {e : Env} {R : Room} {s : State} {m : MethodId} {args : Array Value} {below : List Frame} {meth : Method} {c : Code} {H : Heap} {locs : List Loc} {cells slots : Nat} {Q : State → Prop}
variable {cc : ByteArray} {pc mc ms : Nat} {ls : Array Slot} {rest st0 : List Value} {D : va_G} {cl : List vw_C} {A : Nat → Prop} {a : Nat} {tys : List (ClassId × FieldType)} {ws wr ws' : va_W} {av : Array Value}
theorem ml_calli {post : Int32 → Unit → Prop} (hr : va_Run p l e R s m args below meth c H locs cells slots mc ms (F0 m pc ls st0) rest (va_Qi post (mu_B D cl tys (va_A ws H.size) ws') (va_A ws H.size) av) (va_A ws H.size)) (hP : va_P D cl (ws ++ wr) H) (hD : va_D A (ws ++ wr)) (hS : va_S A s.heap H locs) (hA : ∀ q, s.heap.size ≤ q → A q)
    (kk : ∀ (r : Int32) (H1 : Heap) (locs1 : List Loc), post r () → va_P D cl (ws' ++ wr) H1 → va_D A (ws' ++ wr) → va_S A s.heap H1 locs1 → W p l e R s m args below meth c H1 locs1 (cells + mc) (slots + ms) Q (F0 m (pc + 3) ls (.int r :: rest))) : W p l e R s m args below meth c H locs cells slots Q (F0 m pc ls st0) := by
  have hF := mu_free (D_l hD) hS hA
  refine va_calli hr hS (fun q _ h => hF q h) hF (fun r u t H1 locs1 ht hvm hw hB hz hk hS1 => ?_)
  obtain ⟨hP1, hK1, hD1⟩ := hB
  rw [ht] at hP1
  obtain ⟨g1, g2⟩ := fr_l hP hD hF hk hP1 hD1
  exact kk r H1 locs1 hw g1 g2 hS1
theorem ml_calll {post : Int64 → Unit → Prop} (hr : va_Run p l e R s m args below meth c H locs cells slots mc ms (F0 m pc ls st0) rest (va_Ql post (mu_B D cl tys (va_A ws H.size) ws') (va_A ws H.size) av) (va_A ws H.size)) (hP : va_P D cl (ws ++ wr) H) (hD : va_D A (ws ++ wr)) (hS : va_S A s.heap H locs) (hA : ∀ q, s.heap.size ≤ q → A q)
    (kk : ∀ (r : Int64) (H1 : Heap) (locs1 : List Loc), post r () → va_P D cl (ws' ++ wr) H1 → va_D A (ws' ++ wr) → va_S A s.heap H1 locs1 → W p l e R s m args below meth c H1 locs1 (cells + mc) (slots + ms) Q (F0 m (pc + 3) ls (.long r :: rest))) : W p l e R s m args below meth c H locs cells slots Q (F0 m pc ls st0) := by
  have hF := mu_free (D_l hD) hS hA
  refine va_calll hr hS (fun q _ h => hF q h) hF (fun r u t H1 locs1 ht hvm hw hB hz hk hS1 => ?_)
  obtain ⟨hP1, hK1, hD1⟩ := hB
  rw [ht] at hP1
  obtain ⟨g1, g2⟩ := fr_l hP hD hF hk hP1 hD1
  exact kk r H1 locs1 hw g1 g2 hS1
theorem mr_calli {post : Int32 → Unit → Prop} (hr : va_Run p l e R s m args below meth c H locs cells slots mc ms (F0 m pc ls st0) rest (va_Qi post (mu_B D cl tys (va_A ws H.size) ws') (va_A ws H.size) av) (va_A ws H.size)) (hP : va_P D cl (wr ++ ws) H) (hD : va_D A (wr ++ ws)) (hS : va_S A s.heap H locs) (hA : ∀ q, s.heap.size ≤ q → A q)
    (kk : ∀ (r : Int32) (H1 : Heap) (locs1 : List Loc), post r () → va_P D cl (wr ++ ws') H1 → va_D A (wr ++ ws') → va_S A s.heap H1 locs1 → W p l e R s m args below meth c H1 locs1 (cells + mc) (slots + ms) Q (F0 m (pc + 3) ls (.int r :: rest))) : W p l e R s m args below meth c H locs cells slots Q (F0 m pc ls st0) := by
  have hF := mu_free (D_r hD) hS hA
  refine va_calli hr hS (fun q _ h => hF q h) hF (fun r u t H1 locs1 ht hvm hw hB hz hk hS1 => ?_)
  obtain ⟨hP1, hK1, hD1⟩ := hB
  rw [ht] at hP1
  obtain ⟨g1, g2⟩ := fr_r hP hD hF hk hP1 hD1
  exact kk r H1 locs1 hw g1 g2 hS1
theorem mr_calll {post : Int64 → Unit → Prop} (hr : va_Run p l e R s m args below meth c H locs cells slots mc ms (F0 m pc ls st0) rest (va_Ql post (mu_B D cl tys (va_A ws H.size) ws') (va_A ws H.size) av) (va_A ws H.size)) (hP : va_P D cl (wr ++ ws) H) (hD : va_D A (wr ++ ws)) (hS : va_S A s.heap H locs) (hA : ∀ q, s.heap.size ≤ q → A q)
    (kk : ∀ (r : Int64) (H1 : Heap) (locs1 : List Loc), post r () → va_P D cl (wr ++ ws') H1 → va_D A (wr ++ ws') → va_S A s.heap H1 locs1 → W p l e R s m args below meth c H1 locs1 (cells + mc) (slots + ms) Q (F0 m (pc + 3) ls (.long r :: rest))) : W p l e R s m args below meth c H locs cells slots Q (F0 m pc ls st0) := by
  have hF := mu_free (D_r hD) hS hA
  refine va_calll hr hS (fun q _ h => hF q h) hF (fun r u t H1 locs1 ht hvm hw hB hz hk hS1 => ?_)
  obtain ⟨hP1, hK1, hD1⟩ := hB
  rw [ht] at hP1
  obtain ⟨g1, g2⟩ := fr_r hP hD hF hk hP1 hD1
  exact kk r H1 locs1 hw g1 g2 hS1
/-- a start of a static method that writes and may have to throw -/
def mx_P (av : List Value) (D : va_G) (cl : List vw_C) (tys : List (ClassId × FieldType)) (ws : va_W) (sz : Nat) : Array Value → State → Prop := va_Pc av (fun U => U.heap.size = sz ∧ va_P D cl ws U.heap ∧ va_K D cl tys U ∧ va_D (fun _ => True) ws ∧ xc_ok "ClearingBooks" cb_ks U)
theorem mx_preS {As : List Value} (hK : va_K D cl tys s) (hP : va_P D cl ws H) (hD : va_D A ws) (hX : ∀ U : State, U.heap = H → s.WarmedH U.vm → xc_ok "ClearingBooks" cb_ks U) : PreS s H (mx_P As D cl tys ws H.size) As :=
  ⟨fun a U g mk h => ⟨h.1, h.2.1, h.2.2.1, va_K.moved (u := U) (U := U.calling g mk a) (Vm.Alike.refl U.vm) h.2.2.2.1, h.2.2.2.2.1, bl_xc U g mk a h.2.2.2.2.2⟩, fun U hU hW => ⟨rfl, by rw [hU], by rw [hU]; exact hP, va_K.moved hW.alike hK, hD.weaken (fun _ _ _ _ => trivial), hX U hU hW⟩⟩
end XG
set_option maxHeartbeats 4000000 in
set_option maxRecDepth 100000 in
theorem c_init (l : Launch) (dC : Nat → ClassId) (dI : Nat → Nat → Nat) (cI cJ : ClassId) (h0 sz : Nat) : Met l y_B_init (.code y_B_init b_B_init 1 none :: wAll) ({ frames := 1, cells := 10, slots := 147, locals := 12 } : Room) (mu_P [.ref h0] (dC, dI) vwCl [(cI, .int), (cJ, .long)] [(h0, .inr (0, [.int (nI 0), .null, .null, .null, .null, .null, .null, .null, .int (nI 0), .null, .null, .null]))] sz) (va_Qv (fun ad : Nat → Nat => ad 0 = h0) (fun ad => mu_B (dC, dI) vwCl [(cI, .int), (cJ, .long)] (va_A [(h0, .inr (0, [.int (nI 0), .null, .null, .null, .null, .null, .null, .null, .int (nI 0), .null, .null, .null]))] sz) (cb_w ad cI cJ 1 0 ((upd (fun _ => 0) 0 (nI 0))) ((fun _ => 0)) ((fun _ => 0)) ((fun _ => 0)) ((fun _ => 0)) ((fun _ => 0)) ((fun _ => 0)) ((fun _ => 0)) ((fun _ => 0)) ((fun _ => 0))) ()) (va_A [(h0, .inr (0, [.int (nI 0), .null, .null, .null, .null, .null, .null, .null, .int (nI 0), .null, .null, .null]))] sz)) 10 147 (va_A [(h0, .inr (0, [.int (nI 0), .null, .null, .null, .null, .null, .null, .null, .int (nI 0), .null, .null, .null]))] sz) := by
  refine Met.ofW (cc := b_B_init) (maxL := 1) (ret := none) (by decide) rfl ?_
  intro p e s m args below meth c s₁ B hml hv
  obtain ⟨rfl, hsz, hP, hK, hD0⟩ := hv
  have hx := B.exec
  have hb := B.bytes
  have hr := B.returns
  have hts0 := atoms_spec (ws := (.code y_B_init b_B_init 1 none :: wAll)) B.pre
  have hts := hts_all hts0
  have hown : s.vm.findClass "ClearingBooks" = some m.cls := findClass_of_methodNamed B.named
  have hlocks := B.notSynchronized
  have hin : meth.name = "<init>" := (name_of_methodNamed B.named B.method).1
  subst hsz
  have hD := hD0.self (sz := s.heap.size)
  generalize hAe : va_A [(h0, .inr (0, [.int (nI 0), .null, .null, .null, .null, .null, .null, .null, .int (nI 0), .null, .null, .null]))] s.heap.size = A at hD ⊢
  have hA : ∀ q : Nat, s.heap.size ≤ q → A q := fun q h => by rw [← hAe]; exact Or.inr h
  have hS : va_S A s.heap s.heap [] := va_S.rf
  have hl := lv_entry ([.ref h0]) (n := 1) (Nat.le_of_ble_eq_true rfl)
  rw [lg_entry_eq]
  generalize (lg_sl ([.ref h0]) ++ List.replicate (1 - (lg_sl ([.ref h0])).length) Slot.unset).toArray = ls at hl ⊢
  have hl : lv_has ls 1 [(0, .ref h0)] := hl
  refine lv_aload_n hx hb d_B_init_0 rfl (lv_at hl 0 rfl) ?_
  refine W.objInit hx hb hown (hts _ kw_14) (hts _ kw_15) (hts _ kw_16) rfl (by rw [hml]; exact hl.1) rfl d_B_init_1 (Nat.le_of_ble_eq_true rfl) (Nat.le_of_ble_eq_true rfl) ?_
  refine W.eq (g2 := F0 m 4 ls []) rfl ?_
  refine lv_aload_n hx hb d_B_init_4 rfl (lv_at hl 0 rfl) ?_
  refine lv_bipush (v := nI 15) hx hb d_B_init_5 (by decide) ?_
  refine xa_newI hx hb (hts _ kw_54) hK hP hD hS hA 0 rfl (N' := 15) (by decide) (Nat.le_of_ble_eq_true rfl) (Nat.le_of_ble_eq_true rfl) d_B_init_7 (fun q1 H hP hD hS => ?_)
  have hP : va_P (dC, dI) vwCl [(h0, .inr (0, [.int (nI 0), .null, .null, .null, .null, .null, .null, .null, .int (nI 0), .null, .null, .null])), (q1, .inl (cI, 15, .inl (fun _ => 0)))] H := hP
  have hD : va_D A [(h0, .inr (0, [.int (nI 0), .null, .null, .null, .null, .null, .null, .null, .int (nI 0), .null, .null, .null])), (q1, .inl (cI, 15, .inl (fun _ => 0)))] := hD
  refine va_putF (D := (dC, dI)) (ci := 0) (v := .ref q1) (ty := .array .int) (C := "ClearingBooks") (T := T_B) (N := 12) hx hb hts wi_B ty_B tyok_B nm_B hown hK hP hD hS 0 rfl rfl 1 (by decide) (hts _ kw_18) (fun _ h9 => h9) rfl hin rfl (by decide +kernel) rfl rfl (Nat.le_of_ble_eq_true rfl) d_B_init_9 (fun H locs hP hD hS => ?_)
  have hP : va_P (dC, dI) vwCl [(h0, .inr (0, [.int (nI 0), .ref q1, .null, .null, .null, .null, .null, .null, .int (nI 0), .null, .null, .null])), (q1, .inl (cI, 15, .inl (fun _ => 0)))] H := hP
  have hD : va_D A [(h0, .inr (0, [.int (nI 0), .ref q1, .null, .null, .null, .null, .null, .null, .int (nI 0), .null, .null, .null])), (q1, .inl (cI, 15, .inl (fun _ => 0)))] := hD
  refine lv_aload_n hx hb d_B_init_12 rfl (lv_at hl 0 rfl) ?_
  refine lv_bipush (v := nI 15) hx hb d_B_init_13 (by decide) ?_
  refine xa_newI hx hb (hts _ kw_54) hK hP hD hS hA 0 rfl (N' := 15) (by decide) (Nat.le_of_ble_eq_true rfl) (Nat.le_of_ble_eq_true rfl) d_B_init_15 (fun q2 H hP hD hS => ?_)
  have hP : va_P (dC, dI) vwCl [(h0, .inr (0, [.int (nI 0), .ref q1, .null, .null, .null, .null, .null, .null, .int (nI 0), .null, .null, .null])), (q1, .inl (cI, 15, .inl (fun _ => 0))), (q2, .inl (cI, 15, .inl (fun _ => 0)))] H := hP
  have hD : va_D A [(h0, .inr (0, [.int (nI 0), .ref q1, .null, .null, .null, .null, .null, .null, .int (nI 0), .null, .null, .null])), (q1, .inl (cI, 15, .inl (fun _ => 0))), (q2, .inl (cI, 15, .inl (fun _ => 0)))] := hD
  refine va_putF (D := (dC, dI)) (ci := 0) (v := .ref q2) (ty := .array .int) (C := "ClearingBooks") (T := T_B) (N := 12) hx hb hts wi_B ty_B tyok_B nm_B hown hK hP hD hS 0 rfl rfl 2 (by decide) (hts _ kw_19) (fun _ h9 => h9) rfl hin rfl (by decide +kernel) rfl rfl (Nat.le_of_ble_eq_true rfl) d_B_init_17 (fun H locs hP hD hS => ?_)
  have hP : va_P (dC, dI) vwCl [(h0, .inr (0, [.int (nI 0), .ref q1, .ref q2, .null, .null, .null, .null, .null, .int (nI 0), .null, .null, .null])), (q1, .inl (cI, 15, .inl (fun _ => 0))), (q2, .inl (cI, 15, .inl (fun _ => 0)))] H := hP
  have hD : va_D A [(h0, .inr (0, [.int (nI 0), .ref q1, .ref q2, .null, .null, .null, .null, .null, .int (nI 0), .null, .null, .null])), (q1, .inl (cI, 15, .inl (fun _ => 0))), (q2, .inl (cI, 15, .inl (fun _ => 0)))] := hD
  refine lv_aload_n hx hb d_B_init_20 rfl (lv_at hl 0 rfl) ?_
  refine lv_bipush (v := nI 15) hx hb d_B_init_21 (by decide) ?_
  refine xa_newJ hx hb (hts _ kw_55) hK hP hD hS hA 1 rfl (N' := 15) (by decide) (Nat.le_of_ble_eq_true rfl) (Nat.le_of_ble_eq_true rfl) d_B_init_23 (fun q3 H hP hD hS => ?_)
  have hP : va_P (dC, dI) vwCl [(h0, .inr (0, [.int (nI 0), .ref q1, .ref q2, .null, .null, .null, .null, .null, .int (nI 0), .null, .null, .null])), (q1, .inl (cI, 15, .inl (fun _ => 0))), (q2, .inl (cI, 15, .inl (fun _ => 0))), (q3, .inl (cJ, 15, .inr (.inl (fun _ => 0))))] H := hP
  have hD : va_D A [(h0, .inr (0, [.int (nI 0), .ref q1, .ref q2, .null, .null, .null, .null, .null, .int (nI 0), .null, .null, .null])), (q1, .inl (cI, 15, .inl (fun _ => 0))), (q2, .inl (cI, 15, .inl (fun _ => 0))), (q3, .inl (cJ, 15, .inr (.inl (fun _ => 0))))] := hD
  refine va_putF (D := (dC, dI)) (ci := 0) (v := .ref q3) (ty := .array .long) (C := "ClearingBooks") (T := T_B) (N := 12) hx hb hts wi_B ty_B tyok_B nm_B hown hK hP hD hS 0 rfl rfl 3 (by decide) (hts _ kw_20) (fun _ h9 => h9) rfl hin rfl (by decide +kernel) rfl rfl (Nat.le_of_ble_eq_true rfl) d_B_init_25 (fun H locs hP hD hS => ?_)
  have hP : va_P (dC, dI) vwCl [(h0, .inr (0, [.int (nI 0), .ref q1, .ref q2, .ref q3, .null, .null, .null, .null, .int (nI 0), .null, .null, .null])), (q1, .inl (cI, 15, .inl (fun _ => 0))), (q2, .inl (cI, 15, .inl (fun _ => 0))), (q3, .inl (cJ, 15, .inr (.inl (fun _ => 0))))] H := hP
  have hD : va_D A [(h0, .inr (0, [.int (nI 0), .ref q1, .ref q2, .ref q3, .null, .null, .null, .null, .int (nI 0), .null, .null, .null])), (q1, .inl (cI, 15, .inl (fun _ => 0))), (q2, .inl (cI, 15, .inl (fun _ => 0))), (q3, .inl (cJ, 15, .inr (.inl (fun _ => 0))))] := hD
  refine lv_aload_n hx hb d_B_init_28 rfl (lv_at hl 0 rfl) ?_
  refine lv_bipush (v := nI 15) hx hb d_B_init_29 (by decide) ?_
  refine xa_newJ hx hb (hts _ kw_55) hK hP hD hS hA 1 rfl (N' := 15) (by decide) (Nat.le_of_ble_eq_true rfl) (Nat.le_of_ble_eq_true rfl) d_B_init_31 (fun q4 H hP hD hS => ?_)
  have hP : va_P (dC, dI) vwCl [(h0, .inr (0, [.int (nI 0), .ref q1, .ref q2, .ref q3, .null, .null, .null, .null, .int (nI 0), .null, .null, .null])), (q1, .inl (cI, 15, .inl (fun _ => 0))), (q2, .inl (cI, 15, .inl (fun _ => 0))), (q3, .inl (cJ, 15, .inr (.inl (fun _ => 0)))), (q4, .inl (cJ, 15, .inr (.inl (fun _ => 0))))] H := hP
  have hD : va_D A [(h0, .inr (0, [.int (nI 0), .ref q1, .ref q2, .ref q3, .null, .null, .null, .null, .int (nI 0), .null, .null, .null])), (q1, .inl (cI, 15, .inl (fun _ => 0))), (q2, .inl (cI, 15, .inl (fun _ => 0))), (q3, .inl (cJ, 15, .inr (.inl (fun _ => 0)))), (q4, .inl (cJ, 15, .inr (.inl (fun _ => 0))))] := hD
  refine va_putF (D := (dC, dI)) (ci := 0) (v := .ref q4) (ty := .array .long) (C := "ClearingBooks") (T := T_B) (N := 12) hx hb hts wi_B ty_B tyok_B nm_B hown hK hP hD hS 0 rfl rfl 4 (by decide) (hts _ kw_21) (fun _ h9 => h9) rfl hin rfl (by decide +kernel) rfl rfl (Nat.le_of_ble_eq_true rfl) d_B_init_33 (fun H locs hP hD hS => ?_)
  have hP : va_P (dC, dI) vwCl [(h0, .inr (0, [.int (nI 0), .ref q1, .ref q2, .ref q3, .ref q4, .null, .null, .null, .int (nI 0), .null, .null, .null])), (q1, .inl (cI, 15, .inl (fun _ => 0))), (q2, .inl (cI, 15, .inl (fun _ => 0))), (q3, .inl (cJ, 15, .inr (.inl (fun _ => 0)))), (q4, .inl (cJ, 15, .inr (.inl (fun _ => 0))))] H := hP
  have hD : va_D A [(h0, .inr (0, [.int (nI 0), .ref q1, .ref q2, .ref q3, .ref q4, .null, .null, .null, .int (nI 0), .null, .null, .null])), (q1, .inl (cI, 15, .inl (fun _ => 0))), (q2, .inl (cI, 15, .inl (fun _ => 0))), (q3, .inl (cJ, 15, .inr (.inl (fun _ => 0)))), (q4, .inl (cJ, 15, .inr (.inl (fun _ => 0))))] := hD
  refine lv_aload_n hx hb d_B_init_36 rfl (lv_at hl 0 rfl) ?_
  refine lv_bipush (v := nI 15) hx hb d_B_init_37 (by decide) ?_
  refine xa_newI hx hb (hts _ kw_54) hK hP hD hS hA 0 rfl (N' := 15) (by decide) (Nat.le_of_ble_eq_true rfl) (Nat.le_of_ble_eq_true rfl) d_B_init_39 (fun q5 H hP hD hS => ?_)
  have hP : va_P (dC, dI) vwCl [(h0, .inr (0, [.int (nI 0), .ref q1, .ref q2, .ref q3, .ref q4, .null, .null, .null, .int (nI 0), .null, .null, .null])), (q1, .inl (cI, 15, .inl (fun _ => 0))), (q2, .inl (cI, 15, .inl (fun _ => 0))), (q3, .inl (cJ, 15, .inr (.inl (fun _ => 0)))), (q4, .inl (cJ, 15, .inr (.inl (fun _ => 0)))), (q5, .inl (cI, 15, .inl (fun _ => 0)))] H := hP
  have hD : va_D A [(h0, .inr (0, [.int (nI 0), .ref q1, .ref q2, .ref q3, .ref q4, .null, .null, .null, .int (nI 0), .null, .null, .null])), (q1, .inl (cI, 15, .inl (fun _ => 0))), (q2, .inl (cI, 15, .inl (fun _ => 0))), (q3, .inl (cJ, 15, .inr (.inl (fun _ => 0)))), (q4, .inl (cJ, 15, .inr (.inl (fun _ => 0)))), (q5, .inl (cI, 15, .inl (fun _ => 0)))] := hD
  refine va_putF (D := (dC, dI)) (ci := 0) (v := .ref q5) (ty := .array .int) (C := "ClearingBooks") (T := T_B) (N := 12) hx hb hts wi_B ty_B tyok_B nm_B hown hK hP hD hS 0 rfl rfl 5 (by decide) (hts _ kw_22) (fun _ h9 => h9) rfl hin rfl (by decide +kernel) rfl rfl (Nat.le_of_ble_eq_true rfl) d_B_init_41 (fun H locs hP hD hS => ?_)
  have hP : va_P (dC, dI) vwCl [(h0, .inr (0, [.int (nI 0), .ref q1, .ref q2, .ref q3, .ref q4, .ref q5, .null, .null, .int (nI 0), .null, .null, .null])), (q1, .inl (cI, 15, .inl (fun _ => 0))), (q2, .inl (cI, 15, .inl (fun _ => 0))), (q3, .inl (cJ, 15, .inr (.inl (fun _ => 0)))), (q4, .inl (cJ, 15, .inr (.inl (fun _ => 0)))), (q5, .inl (cI, 15, .inl (fun _ => 0)))] H := hP
  have hD : va_D A [(h0, .inr (0, [.int (nI 0), .ref q1, .ref q2, .ref q3, .ref q4, .ref q5, .null, .null, .int (nI 0), .null, .null, .null])), (q1, .inl (cI, 15, .inl (fun _ => 0))), (q2, .inl (cI, 15, .inl (fun _ => 0))), (q3, .inl (cJ, 15, .inr (.inl (fun _ => 0)))), (q4, .inl (cJ, 15, .inr (.inl (fun _ => 0)))), (q5, .inl (cI, 15, .inl (fun _ => 0)))] := hD
  refine lv_aload_n hx hb d_B_init_44 rfl (lv_at hl 0 rfl) ?_
  refine lv_bipush (v := nI 15) hx hb d_B_init_45 (by decide) ?_
  refine xa_newJ hx hb (hts _ kw_55) hK hP hD hS hA 1 rfl (N' := 15) (by decide) (Nat.le_of_ble_eq_true rfl) (Nat.le_of_ble_eq_true rfl) d_B_init_47 (fun q6 H hP hD hS => ?_)
  have hP : va_P (dC, dI) vwCl [(h0, .inr (0, [.int (nI 0), .ref q1, .ref q2, .ref q3, .ref q4, .ref q5, .null, .null, .int (nI 0), .null, .null, .null])), (q1, .inl (cI, 15, .inl (fun _ => 0))), (q2, .inl (cI, 15, .inl (fun _ => 0))), (q3, .inl (cJ, 15, .inr (.inl (fun _ => 0)))), (q4, .inl (cJ, 15, .inr (.inl (fun _ => 0)))), (q5, .inl (cI, 15, .inl (fun _ => 0))), (q6, .inl (cJ, 15, .inr (.inl (fun _ => 0))))] H := hP
  have hD : va_D A [(h0, .inr (0, [.int (nI 0), .ref q1, .ref q2, .ref q3, .ref q4, .ref q5, .null, .null, .int (nI 0), .null, .null, .null])), (q1, .inl (cI, 15, .inl (fun _ => 0))), (q2, .inl (cI, 15, .inl (fun _ => 0))), (q3, .inl (cJ, 15, .inr (.inl (fun _ => 0)))), (q4, .inl (cJ, 15, .inr (.inl (fun _ => 0)))), (q5, .inl (cI, 15, .inl (fun _ => 0))), (q6, .inl (cJ, 15, .inr (.inl (fun _ => 0))))] := hD
  refine va_putF (D := (dC, dI)) (ci := 0) (v := .ref q6) (ty := .array .long) (C := "ClearingBooks") (T := T_B) (N := 12) hx hb hts wi_B ty_B tyok_B nm_B hown hK hP hD hS 0 rfl rfl 6 (by decide) (hts _ kw_23) (fun _ h9 => h9) rfl hin rfl (by decide +kernel) rfl rfl (Nat.le_of_ble_eq_true rfl) d_B_init_49 (fun H locs hP hD hS => ?_)
  have hP : va_P (dC, dI) vwCl [(h0, .inr (0, [.int (nI 0), .ref q1, .ref q2, .ref q3, .ref q4, .ref q5, .ref q6, .null, .int (nI 0), .null, .null, .null])), (q1, .inl (cI, 15, .inl (fun _ => 0))), (q2, .inl (cI, 15, .inl (fun _ => 0))), (q3, .inl (cJ, 15, .inr (.inl (fun _ => 0)))), (q4, .inl (cJ, 15, .inr (.inl (fun _ => 0)))), (q5, .inl (cI, 15, .inl (fun _ => 0))), (q6, .inl (cJ, 15, .inr (.inl (fun _ => 0))))] H := hP
  have hD : va_D A [(h0, .inr (0, [.int (nI 0), .ref q1, .ref q2, .ref q3, .ref q4, .ref q5, .ref q6, .null, .int (nI 0), .null, .null, .null])), (q1, .inl (cI, 15, .inl (fun _ => 0))), (q2, .inl (cI, 15, .inl (fun _ => 0))), (q3, .inl (cJ, 15, .inr (.inl (fun _ => 0)))), (q4, .inl (cJ, 15, .inr (.inl (fun _ => 0)))), (q5, .inl (cI, 15, .inl (fun _ => 0))), (q6, .inl (cJ, 15, .inr (.inl (fun _ => 0))))] := hD
  refine lv_aload_n hx hb d_B_init_52 rfl (lv_at hl 0 rfl) ?_
  refine lv_bipush (v := nI 15) hx hb d_B_init_53 (by decide) ?_
  refine xa_newJ hx hb (hts _ kw_55) hK hP hD hS hA 1 rfl (N' := 15) (by decide) (Nat.le_of_ble_eq_true rfl) (Nat.le_of_ble_eq_true rfl) d_B_init_55 (fun q7 H hP hD hS => ?_)
  have hP : va_P (dC, dI) vwCl [(h0, .inr (0, [.int (nI 0), .ref q1, .ref q2, .ref q3, .ref q4, .ref q5, .ref q6, .null, .int (nI 0), .null, .null, .null])), (q1, .inl (cI, 15, .inl (fun _ => 0))), (q2, .inl (cI, 15, .inl (fun _ => 0))), (q3, .inl (cJ, 15, .inr (.inl (fun _ => 0)))), (q4, .inl (cJ, 15, .inr (.inl (fun _ => 0)))), (q5, .inl (cI, 15, .inl (fun _ => 0))), (q6, .inl (cJ, 15, .inr (.inl (fun _ => 0)))), (q7, .inl (cJ, 15, .inr (.inl (fun _ => 0))))] H := hP
  have hD : va_D A [(h0, .inr (0, [.int (nI 0), .ref q1, .ref q2, .ref q3, .ref q4, .ref q5, .ref q6, .null, .int (nI 0), .null, .null, .null])), (q1, .inl (cI, 15, .inl (fun _ => 0))), (q2, .inl (cI, 15, .inl (fun _ => 0))), (q3, .inl (cJ, 15, .inr (.inl (fun _ => 0)))), (q4, .inl (cJ, 15, .inr (.inl (fun _ => 0)))), (q5, .inl (cI, 15, .inl (fun _ => 0))), (q6, .inl (cJ, 15, .inr (.inl (fun _ => 0)))), (q7, .inl (cJ, 15, .inr (.inl (fun _ => 0))))] := hD
  refine va_putF (D := (dC, dI)) (ci := 0) (v := .ref q7) (ty := .array .long) (C := "ClearingBooks") (T := T_B) (N := 12) hx hb hts wi_B ty_B tyok_B nm_B hown hK hP hD hS 0 rfl rfl 7 (by decide) (hts _ kw_24) (fun _ h9 => h9) rfl hin rfl (by decide +kernel) rfl rfl (Nat.le_of_ble_eq_true rfl) d_B_init_57 (fun H locs hP hD hS => ?_)
  have hP : va_P (dC, dI) vwCl [(h0, .inr (0, [.int (nI 0), .ref q1, .ref q2, .ref q3, .ref q4, .ref q5, .ref q6, .ref q7, .int (nI 0), .null, .null, .null])), (q1, .inl (cI, 15, .inl (fun _ => 0))), (q2, .inl (cI, 15, .inl (fun _ => 0))), (q3, .inl (cJ, 15, .inr (.inl (fun _ => 0)))), (q4, .inl (cJ, 15, .inr (.inl (fun _ => 0)))), (q5, .inl (cI, 15, .inl (fun _ => 0))), (q6, .inl (cJ, 15, .inr (.inl (fun _ => 0)))), (q7, .inl (cJ, 15, .inr (.inl (fun _ => 0))))] H := hP
  have hD : va_D A [(h0, .inr (0, [.int (nI 0), .ref q1, .ref q2, .ref q3, .ref q4, .ref q5, .ref q6, .ref q7, .int (nI 0), .null, .null, .null])), (q1, .inl (cI, 15, .inl (fun _ => 0))), (q2, .inl (cI, 15, .inl (fun _ => 0))), (q3, .inl (cJ, 15, .inr (.inl (fun _ => 0)))), (q4, .inl (cJ, 15, .inr (.inl (fun _ => 0)))), (q5, .inl (cI, 15, .inl (fun _ => 0))), (q6, .inl (cJ, 15, .inr (.inl (fun _ => 0)))), (q7, .inl (cJ, 15, .inr (.inl (fun _ => 0))))] := hD
  refine lv_aload_n hx hb d_B_init_60 rfl (lv_at hl 0 rfl) ?_
  refine lv_bipush (v := nI 14) hx hb d_B_init_61 (by decide) ?_
  refine xa_newI hx hb (hts _ kw_54) hK hP hD hS hA 0 rfl (N' := 14) (by decide) (Nat.le_of_ble_eq_true rfl) (Nat.le_of_ble_eq_true rfl) d_B_init_63 (fun q8 H hP hD hS => ?_)
  have hP : va_P (dC, dI) vwCl [(h0, .inr (0, [.int (nI 0), .ref q1, .ref q2, .ref q3, .ref q4, .ref q5, .ref q6, .ref q7, .int (nI 0), .null, .null, .null])), (q1, .inl (cI, 15, .inl (fun _ => 0))), (q2, .inl (cI, 15, .inl (fun _ => 0))), (q3, .inl (cJ, 15, .inr (.inl (fun _ => 0)))), (q4, .inl (cJ, 15, .inr (.inl (fun _ => 0)))), (q5, .inl (cI, 15, .inl (fun _ => 0))), (q6, .inl (cJ, 15, .inr (.inl (fun _ => 0)))), (q7, .inl (cJ, 15, .inr (.inl (fun _ => 0)))), (q8, .inl (cI, 14, .inl (fun _ => 0)))] H := hP
  have hD : va_D A [(h0, .inr (0, [.int (nI 0), .ref q1, .ref q2, .ref q3, .ref q4, .ref q5, .ref q6, .ref q7, .int (nI 0), .null, .null, .null])), (q1, .inl (cI, 15, .inl (fun _ => 0))), (q2, .inl (cI, 15, .inl (fun _ => 0))), (q3, .inl (cJ, 15, .inr (.inl (fun _ => 0)))), (q4, .inl (cJ, 15, .inr (.inl (fun _ => 0)))), (q5, .inl (cI, 15, .inl (fun _ => 0))), (q6, .inl (cJ, 15, .inr (.inl (fun _ => 0)))), (q7, .inl (cJ, 15, .inr (.inl (fun _ => 0)))), (q8, .inl (cI, 14, .inl (fun _ => 0)))] := hD
  refine va_putF (D := (dC, dI)) (ci := 0) (v := .ref q8) (ty := .array .int) (C := "ClearingBooks") (T := T_B) (N := 12) hx hb hts wi_B ty_B tyok_B nm_B hown hK hP hD hS 0 rfl rfl 9 (by decide) (hts _ kw_26) (fun _ h9 => h9) rfl hin rfl (by decide +kernel) rfl rfl (Nat.le_of_ble_eq_true rfl) d_B_init_65 (fun H locs hP hD hS => ?_)
  have hP : va_P (dC, dI) vwCl [(h0, .inr (0, [.int (nI 0), .ref q1, .ref q2, .ref q3, .ref q4, .ref q5, .ref q6, .ref q7, .int (nI 0), .ref q8, .null, .null])), (q1, .inl (cI, 15, .inl (fun _ => 0))), (q2, .inl (cI, 15, .inl (fun _ => 0))), (q3, .inl (cJ, 15, .inr (.inl (fun _ => 0)))), (q4, .inl (cJ, 15, .inr (.inl (fun _ => 0)))), (q5, .inl (cI, 15, .inl (fun _ => 0))), (q6, .inl (cJ, 15, .inr (.inl (fun _ => 0)))), (q7, .inl (cJ, 15, .inr (.inl (fun _ => 0)))), (q8, .inl (cI, 14, .inl (fun _ => 0)))] H := hP
  have hD : va_D A [(h0, .inr (0, [.int (nI 0), .ref q1, .ref q2, .ref q3, .ref q4, .ref q5, .ref q6, .ref q7, .int (nI 0), .ref q8, .null, .null])), (q1, .inl (cI, 15, .inl (fun _ => 0))), (q2, .inl (cI, 15, .inl (fun _ => 0))), (q3, .inl (cJ, 15, .inr (.inl (fun _ => 0)))), (q4, .inl (cJ, 15, .inr (.inl (fun _ => 0)))), (q5, .inl (cI, 15, .inl (fun _ => 0))), (q6, .inl (cJ, 15, .inr (.inl (fun _ => 0)))), (q7, .inl (cJ, 15, .inr (.inl (fun _ => 0)))), (q8, .inl (cI, 14, .inl (fun _ => 0)))] := hD
  refine lv_aload_n hx hb d_B_init_68 rfl (lv_at hl 0 rfl) ?_
  refine lv_bipush (v := nI 14) hx hb d_B_init_69 (by decide) ?_
  refine xa_newI hx hb (hts _ kw_54) hK hP hD hS hA 0 rfl (N' := 14) (by decide) (Nat.le_of_ble_eq_true rfl) (Nat.le_of_ble_eq_true rfl) d_B_init_71 (fun q9 H hP hD hS => ?_)
  have hP : va_P (dC, dI) vwCl [(h0, .inr (0, [.int (nI 0), .ref q1, .ref q2, .ref q3, .ref q4, .ref q5, .ref q6, .ref q7, .int (nI 0), .ref q8, .null, .null])), (q1, .inl (cI, 15, .inl (fun _ => 0))), (q2, .inl (cI, 15, .inl (fun _ => 0))), (q3, .inl (cJ, 15, .inr (.inl (fun _ => 0)))), (q4, .inl (cJ, 15, .inr (.inl (fun _ => 0)))), (q5, .inl (cI, 15, .inl (fun _ => 0))), (q6, .inl (cJ, 15, .inr (.inl (fun _ => 0)))), (q7, .inl (cJ, 15, .inr (.inl (fun _ => 0)))), (q8, .inl (cI, 14, .inl (fun _ => 0))), (q9, .inl (cI, 14, .inl (fun _ => 0)))] H := hP
  have hD : va_D A [(h0, .inr (0, [.int (nI 0), .ref q1, .ref q2, .ref q3, .ref q4, .ref q5, .ref q6, .ref q7, .int (nI 0), .ref q8, .null, .null])), (q1, .inl (cI, 15, .inl (fun _ => 0))), (q2, .inl (cI, 15, .inl (fun _ => 0))), (q3, .inl (cJ, 15, .inr (.inl (fun _ => 0)))), (q4, .inl (cJ, 15, .inr (.inl (fun _ => 0)))), (q5, .inl (cI, 15, .inl (fun _ => 0))), (q6, .inl (cJ, 15, .inr (.inl (fun _ => 0)))), (q7, .inl (cJ, 15, .inr (.inl (fun _ => 0)))), (q8, .inl (cI, 14, .inl (fun _ => 0))), (q9, .inl (cI, 14, .inl (fun _ => 0)))] := hD
  refine va_putF (D := (dC, dI)) (ci := 0) (v := .ref q9) (ty := .array .int) (C := "ClearingBooks") (T := T_B) (N := 12) hx hb hts wi_B ty_B tyok_B nm_B hown hK hP hD hS 0 rfl rfl 10 (by decide) (hts _ kw_27) (fun _ h9 => h9) rfl hin rfl (by decide +kernel) rfl rfl (Nat.le_of_ble_eq_true rfl) d_B_init_73 (fun H locs hP hD hS => ?_)
  have hP : va_P (dC, dI) vwCl [(h0, .inr (0, [.int (nI 0), .ref q1, .ref q2, .ref q3, .ref q4, .ref q5, .ref q6, .ref q7, .int (nI 0), .ref q8, .ref q9, .null])), (q1, .inl (cI, 15, .inl (fun _ => 0))), (q2, .inl (cI, 15, .inl (fun _ => 0))), (q3, .inl (cJ, 15, .inr (.inl (fun _ => 0)))), (q4, .inl (cJ, 15, .inr (.inl (fun _ => 0)))), (q5, .inl (cI, 15, .inl (fun _ => 0))), (q6, .inl (cJ, 15, .inr (.inl (fun _ => 0)))), (q7, .inl (cJ, 15, .inr (.inl (fun _ => 0)))), (q8, .inl (cI, 14, .inl (fun _ => 0))), (q9, .inl (cI, 14, .inl (fun _ => 0)))] H := hP
  have hD : va_D A [(h0, .inr (0, [.int (nI 0), .ref q1, .ref q2, .ref q3, .ref q4, .ref q5, .ref q6, .ref q7, .int (nI 0), .ref q8, .ref q9, .null])), (q1, .inl (cI, 15, .inl (fun _ => 0))), (q2, .inl (cI, 15, .inl (fun _ => 0))), (q3, .inl (cJ, 15, .inr (.inl (fun _ => 0)))), (q4, .inl (cJ, 15, .inr (.inl (fun _ => 0)))), (q5, .inl (cI, 15, .inl (fun _ => 0))), (q6, .inl (cJ, 15, .inr (.inl (fun _ => 0)))), (q7, .inl (cJ, 15, .inr (.inl (fun _ => 0)))), (q8, .inl (cI, 14, .inl (fun _ => 0))), (q9, .inl (cI, 14, .inl (fun _ => 0)))] := hD
  refine lv_aload_n hx hb d_B_init_76 rfl (lv_at hl 0 rfl) ?_
  refine lv_bipush (v := nI 14) hx hb d_B_init_77 (by decide) ?_
  refine xa_newJ hx hb (hts _ kw_55) hK hP hD hS hA 1 rfl (N' := 14) (by decide) (Nat.le_of_ble_eq_true rfl) (Nat.le_of_ble_eq_true rfl) d_B_init_79 (fun q10 H hP hD hS => ?_)
  have hP : va_P (dC, dI) vwCl [(h0, .inr (0, [.int (nI 0), .ref q1, .ref q2, .ref q3, .ref q4, .ref q5, .ref q6, .ref q7, .int (nI 0), .ref q8, .ref q9, .null])), (q1, .inl (cI, 15, .inl (fun _ => 0))), (q2, .inl (cI, 15, .inl (fun _ => 0))), (q3, .inl (cJ, 15, .inr (.inl (fun _ => 0)))), (q4, .inl (cJ, 15, .inr (.inl (fun _ => 0)))), (q5, .inl (cI, 15, .inl (fun _ => 0))), (q6, .inl (cJ, 15, .inr (.inl (fun _ => 0)))), (q7, .inl (cJ, 15, .inr (.inl (fun _ => 0)))), (q8, .inl (cI, 14, .inl (fun _ => 0))), (q9, .inl (cI, 14, .inl (fun _ => 0))), (q10, .inl (cJ, 14, .inr (.inl (fun _ => 0))))] H := hP
  have hD : va_D A [(h0, .inr (0, [.int (nI 0), .ref q1, .ref q2, .ref q3, .ref q4, .ref q5, .ref q6, .ref q7, .int (nI 0), .ref q8, .ref q9, .null])), (q1, .inl (cI, 15, .inl (fun _ => 0))), (q2, .inl (cI, 15, .inl (fun _ => 0))), (q3, .inl (cJ, 15, .inr (.inl (fun _ => 0)))), (q4, .inl (cJ, 15, .inr (.inl (fun _ => 0)))), (q5, .inl (cI, 15, .inl (fun _ => 0))), (q6, .inl (cJ, 15, .inr (.inl (fun _ => 0)))), (q7, .inl (cJ, 15, .inr (.inl (fun _ => 0)))), (q8, .inl (cI, 14, .inl (fun _ => 0))), (q9, .inl (cI, 14, .inl (fun _ => 0))), (q10, .inl (cJ, 14, .inr (.inl (fun _ => 0))))] := hD
  refine va_putF (D := (dC, dI)) (ci := 0) (v := .ref q10) (ty := .array .long) (C := "ClearingBooks") (T := T_B) (N := 12) hx hb hts wi_B ty_B tyok_B nm_B hown hK hP hD hS 0 rfl rfl 11 (by decide) (hts _ kw_28) (fun _ h9 => h9) rfl hin rfl (by decide +kernel) rfl rfl (Nat.le_of_ble_eq_true rfl) d_B_init_81 (fun H locs hP hD hS => ?_)
  have hP : va_P (dC, dI) vwCl [(h0, .inr (0, [.int (nI 0), .ref q1, .ref q2, .ref q3, .ref q4, .ref q5, .ref q6, .ref q7, .int (nI 0), .ref q8, .ref q9, .ref q10])), (q1, .inl (cI, 15, .inl (fun _ => 0))), (q2, .inl (cI, 15, .inl (fun _ => 0))), (q3, .inl (cJ, 15, .inr (.inl (fun _ => 0)))), (q4, .inl (cJ, 15, .inr (.inl (fun _ => 0)))), (q5, .inl (cI, 15, .inl (fun _ => 0))), (q6, .inl (cJ, 15, .inr (.inl (fun _ => 0)))), (q7, .inl (cJ, 15, .inr (.inl (fun _ => 0)))), (q8, .inl (cI, 14, .inl (fun _ => 0))), (q9, .inl (cI, 14, .inl (fun _ => 0))), (q10, .inl (cJ, 14, .inr (.inl (fun _ => 0))))] H := hP
  have hD : va_D A [(h0, .inr (0, [.int (nI 0), .ref q1, .ref q2, .ref q3, .ref q4, .ref q5, .ref q6, .ref q7, .int (nI 0), .ref q8, .ref q9, .ref q10])), (q1, .inl (cI, 15, .inl (fun _ => 0))), (q2, .inl (cI, 15, .inl (fun _ => 0))), (q3, .inl (cJ, 15, .inr (.inl (fun _ => 0)))), (q4, .inl (cJ, 15, .inr (.inl (fun _ => 0)))), (q5, .inl (cI, 15, .inl (fun _ => 0))), (q6, .inl (cJ, 15, .inr (.inl (fun _ => 0)))), (q7, .inl (cJ, 15, .inr (.inl (fun _ => 0)))), (q8, .inl (cI, 14, .inl (fun _ => 0))), (q9, .inl (cI, 14, .inl (fun _ => 0))), (q10, .inl (cJ, 14, .inr (.inl (fun _ => 0))))] := hD
  refine lv_aload_n hx hb d_B_init_84 rfl (lv_at hl 0 rfl) ?_
  refine va_get (D := (dC, dI)) (ci := 0) (v := .ref q1) (C := "ClearingBooks") (T := T_B) (N := 12) hx hb hts wi_B hown hK hP 0 rfl rfl 1 (by decide) (hts _ kw_18) (fun _ h9 => h9) rfl d_B_init_85 ?_
  refine lv_iconst (v := nI 0) hx hb d_B_init_88 (by decide) ?_
  refine lv_iconst (v := nI 0) hx hb d_B_init_89 (by decide) ?_
  refine xa_iastore (f := fun _ => 0) (x := nI 0) hx hb hK hP hD hS 1 0 rfl rfl (j := 0) (by omega) (by decide) d_B_init_90 (fun H locs hP hD hS => ?_)
  have hP : va_P (dC, dI) vwCl [(h0, .inr (0, [.int (nI 0), .ref q1, .ref q2, .ref q3, .ref q4, .ref q5, .ref q6, .ref q7, .int (nI 0), .ref q8, .ref q9, .ref q10])), (q1, .inl (cI, 15, .inl (upd (fun _ => 0) 0 (nI 0)))), (q2, .inl (cI, 15, .inl (fun _ => 0))), (q3, .inl (cJ, 15, .inr (.inl (fun _ => 0)))), (q4, .inl (cJ, 15, .inr (.inl (fun _ => 0)))), (q5, .inl (cI, 15, .inl (fun _ => 0))), (q6, .inl (cJ, 15, .inr (.inl (fun _ => 0)))), (q7, .inl (cJ, 15, .inr (.inl (fun _ => 0)))), (q8, .inl (cI, 14, .inl (fun _ => 0))), (q9, .inl (cI, 14, .inl (fun _ => 0))), (q10, .inl (cJ, 14, .inr (.inl (fun _ => 0))))] H := hP
  have hD : va_D A [(h0, .inr (0, [.int (nI 0), .ref q1, .ref q2, .ref q3, .ref q4, .ref q5, .ref q6, .ref q7, .int (nI 0), .ref q8, .ref q9, .ref q10])), (q1, .inl (cI, 15, .inl (upd (fun _ => 0) 0 (nI 0)))), (q2, .inl (cI, 15, .inl (fun _ => 0))), (q3, .inl (cJ, 15, .inr (.inl (fun _ => 0)))), (q4, .inl (cJ, 15, .inr (.inl (fun _ => 0)))), (q5, .inl (cI, 15, .inl (fun _ => 0))), (q6, .inl (cJ, 15, .inr (.inl (fun _ => 0)))), (q7, .inl (cJ, 15, .inr (.inl (fun _ => 0)))), (q8, .inl (cI, 14, .inl (fun _ => 0))), (q9, .inl (cI, 14, .inl (fun _ => 0))), (q10, .inl (cJ, 14, .inr (.inl (fun _ => 0))))] := hD
  refine lv_aload_n hx hb d_B_init_91 rfl (lv_at hl 0 rfl) ?_
  refine lv_iconst (v := nI 1) hx hb d_B_init_92 (by decide) ?_
  refine va_put (D := (dC, dI)) (ci := 0) (v := .int (nI 1)) (ty := .int) (C := "ClearingBooks") (T := T_B) (N := 12) hx hb hts wi_B ty_B tyok_B nm_B hown hK hP hD hS 0 rfl rfl 0 (by decide) (hts _ kw_17) (fun _ h9 => h9) rfl (by decide +kernel) rfl rfl (Nat.le_of_ble_eq_true rfl) d_B_init_93 (fun H locs hP hD hS => ?_)
  have hP : va_P (dC, dI) vwCl [(h0, .inr (0, [.int (nI 1), .ref q1, .ref q2, .ref q3, .ref q4, .ref q5, .ref q6, .ref q7, .int (nI 0), .ref q8, .ref q9, .ref q10])), (q1, .inl (cI, 15, .inl (upd (fun _ => 0) 0 (nI 0)))), (q2, .inl (cI, 15, .inl (fun _ => 0))), (q3, .inl (cJ, 15, .inr (.inl (fun _ => 0)))), (q4, .inl (cJ, 15, .inr (.inl (fun _ => 0)))), (q5, .inl (cI, 15, .inl (fun _ => 0))), (q6, .inl (cJ, 15, .inr (.inl (fun _ => 0)))), (q7, .inl (cJ, 15, .inr (.inl (fun _ => 0)))), (q8, .inl (cI, 14, .inl (fun _ => 0))), (q9, .inl (cI, 14, .inl (fun _ => 0))), (q10, .inl (cJ, 14, .inr (.inl (fun _ => 0))))] H := hP
  have hD : va_D A [(h0, .inr (0, [.int (nI 1), .ref q1, .ref q2, .ref q3, .ref q4, .ref q5, .ref q6, .ref q7, .int (nI 0), .ref q8, .ref q9, .ref q10])), (q1, .inl (cI, 15, .inl (upd (fun _ => 0) 0 (nI 0)))), (q2, .inl (cI, 15, .inl (fun _ => 0))), (q3, .inl (cJ, 15, .inr (.inl (fun _ => 0)))), (q4, .inl (cJ, 15, .inr (.inl (fun _ => 0)))), (q5, .inl (cI, 15, .inl (fun _ => 0))), (q6, .inl (cJ, 15, .inr (.inl (fun _ => 0)))), (q7, .inl (cJ, 15, .inr (.inl (fun _ => 0)))), (q8, .inl (cI, 14, .inl (fun _ => 0))), (q9, .inl (cI, 14, .inl (fun _ => 0))), (q10, .inl (cJ, 14, .inr (.inl (fun _ => 0))))] := hD
  refine lv_aload_n hx hb d_B_init_96 rfl (lv_at hl 0 rfl) ?_
  refine lv_iconst (v := nI 0) hx hb d_B_init_97 (by decide) ?_
  refine va_put (D := (dC, dI)) (ci := 0) (v := .int (nI 0)) (ty := .int) (C := "ClearingBooks") (T := T_B) (N := 12) hx hb hts wi_B ty_B tyok_B nm_B hown hK hP hD hS 0 rfl rfl 8 (by decide) (hts _ kw_25) (fun _ h9 => h9) rfl (by decide +kernel) rfl rfl (Nat.le_of_ble_eq_true rfl) d_B_init_98 (fun H locs hP hD hS => ?_)
  have hP : va_P (dC, dI) vwCl [(h0, .inr (0, [.int (nI 1), .ref q1, .ref q2, .ref q3, .ref q4, .ref q5, .ref q6, .ref q7, .int (nI 0), .ref q8, .ref q9, .ref q10])), (q1, .inl (cI, 15, .inl (upd (fun _ => 0) 0 (nI 0)))), (q2, .inl (cI, 15, .inl (fun _ => 0))), (q3, .inl (cJ, 15, .inr (.inl (fun _ => 0)))), (q4, .inl (cJ, 15, .inr (.inl (fun _ => 0)))), (q5, .inl (cI, 15, .inl (fun _ => 0))), (q6, .inl (cJ, 15, .inr (.inl (fun _ => 0)))), (q7, .inl (cJ, 15, .inr (.inl (fun _ => 0)))), (q8, .inl (cI, 14, .inl (fun _ => 0))), (q9, .inl (cI, 14, .inl (fun _ => 0))), (q10, .inl (cJ, 14, .inr (.inl (fun _ => 0))))] H := hP
  have hD : va_D A [(h0, .inr (0, [.int (nI 1), .ref q1, .ref q2, .ref q3, .ref q4, .ref q5, .ref q6, .ref q7, .int (nI 0), .ref q8, .ref q9, .ref q10])), (q1, .inl (cI, 15, .inl (upd (fun _ => 0) 0 (nI 0)))), (q2, .inl (cI, 15, .inl (fun _ => 0))), (q3, .inl (cJ, 15, .inr (.inl (fun _ => 0)))), (q4, .inl (cJ, 15, .inr (.inl (fun _ => 0)))), (q5, .inl (cI, 15, .inl (fun _ => 0))), (q6, .inl (cJ, 15, .inr (.inl (fun _ => 0)))), (q7, .inl (cJ, 15, .inr (.inl (fun _ => 0)))), (q8, .inl (cI, 14, .inl (fun _ => 0))), (q9, .inl (cI, 14, .inl (fun _ => 0))), (q10, .inl (cJ, 14, .inr (.inl (fun _ => 0))))] := hD
  refine W.widen (k := 10) (n := 147) (Nat.le_of_ble_eq_true rfl) (Nat.le_of_ble_eq_true rfl) ?_
  exact W.vret hx hb hr (fun t ht hW => ⟨⟨adf h0 q1 q2 q3 q4 q5 q6 q7 q8 q9 q10, rfl, rfl, by rw [ht]; exact hP, va_K.moved hW.alike hK, hD⟩, hS.F ht⟩) hS.2.2 d_B_init_101
set_option maxHeartbeats 4000000 in
set_option maxRecDepth 100000 in
theorem m_init (l : Launch) (dC : Nat → ClassId) (dI : Nat → Nat → Nat) (cI cJ : ClassId) (h0 sz : Nat) : Met l y_M_init (.code y_M_init b_M_init 1 none :: wAll) ({ frames := 1, cells := 10, slots := 150, locals := 12 } : Room) (mu_P [.ref h0] (dC, dI) vwCl [(cI, .int), (cJ, .long)] [(h0, .inr (1, [.int (nI 0), .int (nI 0), .null, .null, .null, .null, .null, .null, .null, .int (nI 0), .null, .null, .null]))] sz) (va_Qv (fun ad : Nat → Nat => ad 0 = h0) (fun ad => mu_B (dC, dI) vwCl [(cI, .int), (cJ, .long)] (va_A [(h0, .inr (1, [.int (nI 0), .int (nI 0), .null, .null, .null, .null, .null, .null, .null, .int (nI 0), .null, .null, .null]))] sz) (md_w ad cI cJ 0 1 0 ((fun _ => 0)) ((fun _ => 0)) ((fun _ => 0)) ((fun _ => 0)) ((fun _ => 0)) ((fun _ => 0)) ((fun _ => 0)) ((fun _ => 0)) ((fun _ => 0)) ((fun _ => 0))) ()) (va_A [(h0, .inr (1, [.int (nI 0), .int (nI 0), .null, .null, .null, .null, .null, .null, .null, .int (nI 0), .null, .null, .null]))] sz)) 10 150 (va_A [(h0, .inr (1, [.int (nI 0), .int (nI 0), .null, .null, .null, .null, .null, .null, .null, .int (nI 0), .null, .null, .null]))] sz) := by
  refine Met.ofW (cc := b_M_init) (maxL := 1) (ret := none) (by decide) rfl ?_
  intro p e s m args below meth c s₁ B hml hv
  obtain ⟨rfl, hsz, hP, hK, hD0⟩ := hv
  have hx := B.exec
  have hb := B.bytes
  have hr := B.returns
  have hts0 := atoms_spec (ws := (.code y_M_init b_M_init 1 none :: wAll)) B.pre
  have hts := hts_all hts0
  have hown : s.vm.findClass "ClearingBooksModel" = some m.cls := findClass_of_methodNamed B.named
  have hlocks := B.notSynchronized
  have hin : meth.name = "<init>" := (name_of_methodNamed B.named B.method).1
  subst hsz
  have hD := hD0.self (sz := s.heap.size)
  generalize hAe : va_A [(h0, .inr (1, [.int (nI 0), .int (nI 0), .null, .null, .null, .null, .null, .null, .null, .int (nI 0), .null, .null, .null]))] s.heap.size = A at hD ⊢
  have hA : ∀ q : Nat, s.heap.size ≤ q → A q := fun q h => by rw [← hAe]; exact Or.inr h
  have hS : va_S A s.heap s.heap [] := va_S.rf
  have hl := lv_entry ([.ref h0]) (n := 1) (Nat.le_of_ble_eq_true rfl)
  rw [lg_entry_eq]
  generalize (lg_sl ([.ref h0]) ++ List.replicate (1 - (lg_sl ([.ref h0])).length) Slot.unset).toArray = ls at hl ⊢
  have hl : lv_has ls 1 [(0, .ref h0)] := hl
  refine lv_aload_n hx hb d_M_init_0 rfl (lv_at hl 0 rfl) ?_
  refine W.objInit hx hb hown (hts _ kw_272) (hts _ kw_15) (hts _ kw_16) rfl (by rw [hml]; exact hl.1) rfl d_M_init_1 (Nat.le_of_ble_eq_true rfl) (Nat.le_of_ble_eq_true rfl) ?_
  refine W.eq (g2 := F0 m 4 ls []) rfl ?_
  refine lv_aload_n hx hb d_M_init_4 rfl (lv_at hl 0 rfl) ?_
  refine lv_iconst (v := nI 1) hx hb d_M_init_5 (by decide) ?_
  refine va_put (D := (dC, dI)) (ci := 1) (v := .int (nI 1)) (ty := .int) (C := "ClearingBooksModel") (T := T_M) (N := 13) hx hb hts wi_M ty_M tyok_M nm_M hown hK hP hD hS 0 rfl rfl 1 (by decide) (hts _ kw_274) (fun _ h9 => h9) rfl (by decide +kernel) rfl rfl (Nat.le_of_ble_eq_true rfl) d_M_init_6 (fun H locs hP hD hS => ?_)
  have hP : va_P (dC, dI) vwCl [(h0, .inr (1, [.int (nI 0), .int (nI 1), .null, .null, .null, .null, .null, .null, .null, .int (nI 0), .null, .null, .null]))] H := hP
  have hD : va_D A [(h0, .inr (1, [.int (nI 0), .int (nI 1), .null, .null, .null, .null, .null, .null, .null, .int (nI 0), .null, .null, .null]))] := hD
  refine lv_aload_n hx hb d_M_init_9 rfl (lv_at hl 0 rfl) ?_
  refine lv_bipush (v := nI 15) hx hb d_M_init_10 (by decide) ?_
  refine xa_newI hx hb (hts _ kw_54) hK hP hD hS hA 0 rfl (N' := 15) (by decide) (Nat.le_of_ble_eq_true rfl) (Nat.le_of_ble_eq_true rfl) d_M_init_12 (fun q1 H hP hD hS => ?_)
  have hP : va_P (dC, dI) vwCl [(h0, .inr (1, [.int (nI 0), .int (nI 1), .null, .null, .null, .null, .null, .null, .null, .int (nI 0), .null, .null, .null])), (q1, .inl (cI, 15, .inl (fun _ => 0)))] H := hP
  have hD : va_D A [(h0, .inr (1, [.int (nI 0), .int (nI 1), .null, .null, .null, .null, .null, .null, .null, .int (nI 0), .null, .null, .null])), (q1, .inl (cI, 15, .inl (fun _ => 0)))] := hD
  refine va_putF (D := (dC, dI)) (ci := 1) (v := .ref q1) (ty := .array .int) (C := "ClearingBooksModel") (T := T_M) (N := 13) hx hb hts wi_M ty_M tyok_M nm_M hown hK hP hD hS 0 rfl rfl 2 (by decide) (hts _ kw_275) (fun _ h9 => h9) rfl hin rfl (by decide +kernel) rfl rfl (Nat.le_of_ble_eq_true rfl) d_M_init_14 (fun H locs hP hD hS => ?_)
  have hP : va_P (dC, dI) vwCl [(h0, .inr (1, [.int (nI 0), .int (nI 1), .ref q1, .null, .null, .null, .null, .null, .null, .int (nI 0), .null, .null, .null])), (q1, .inl (cI, 15, .inl (fun _ => 0)))] H := hP
  have hD : va_D A [(h0, .inr (1, [.int (nI 0), .int (nI 1), .ref q1, .null, .null, .null, .null, .null, .null, .int (nI 0), .null, .null, .null])), (q1, .inl (cI, 15, .inl (fun _ => 0)))] := hD
  refine lv_aload_n hx hb d_M_init_17 rfl (lv_at hl 0 rfl) ?_
  refine lv_bipush (v := nI 15) hx hb d_M_init_18 (by decide) ?_
  refine xa_newI hx hb (hts _ kw_54) hK hP hD hS hA 0 rfl (N' := 15) (by decide) (Nat.le_of_ble_eq_true rfl) (Nat.le_of_ble_eq_true rfl) d_M_init_20 (fun q2 H hP hD hS => ?_)
  have hP : va_P (dC, dI) vwCl [(h0, .inr (1, [.int (nI 0), .int (nI 1), .ref q1, .null, .null, .null, .null, .null, .null, .int (nI 0), .null, .null, .null])), (q1, .inl (cI, 15, .inl (fun _ => 0))), (q2, .inl (cI, 15, .inl (fun _ => 0)))] H := hP
  have hD : va_D A [(h0, .inr (1, [.int (nI 0), .int (nI 1), .ref q1, .null, .null, .null, .null, .null, .null, .int (nI 0), .null, .null, .null])), (q1, .inl (cI, 15, .inl (fun _ => 0))), (q2, .inl (cI, 15, .inl (fun _ => 0)))] := hD
  refine va_putF (D := (dC, dI)) (ci := 1) (v := .ref q2) (ty := .array .int) (C := "ClearingBooksModel") (T := T_M) (N := 13) hx hb hts wi_M ty_M tyok_M nm_M hown hK hP hD hS 0 rfl rfl 3 (by decide) (hts _ kw_276) (fun _ h9 => h9) rfl hin rfl (by decide +kernel) rfl rfl (Nat.le_of_ble_eq_true rfl) d_M_init_22 (fun H locs hP hD hS => ?_)
  have hP : va_P (dC, dI) vwCl [(h0, .inr (1, [.int (nI 0), .int (nI 1), .ref q1, .ref q2, .null, .null, .null, .null, .null, .int (nI 0), .null, .null, .null])), (q1, .inl (cI, 15, .inl (fun _ => 0))), (q2, .inl (cI, 15, .inl (fun _ => 0)))] H := hP
  have hD : va_D A [(h0, .inr (1, [.int (nI 0), .int (nI 1), .ref q1, .ref q2, .null, .null, .null, .null, .null, .int (nI 0), .null, .null, .null])), (q1, .inl (cI, 15, .inl (fun _ => 0))), (q2, .inl (cI, 15, .inl (fun _ => 0)))] := hD
  refine lv_aload_n hx hb d_M_init_25 rfl (lv_at hl 0 rfl) ?_
  refine lv_bipush (v := nI 15) hx hb d_M_init_26 (by decide) ?_
  refine xa_newJ hx hb (hts _ kw_55) hK hP hD hS hA 1 rfl (N' := 15) (by decide) (Nat.le_of_ble_eq_true rfl) (Nat.le_of_ble_eq_true rfl) d_M_init_28 (fun q3 H hP hD hS => ?_)
  have hP : va_P (dC, dI) vwCl [(h0, .inr (1, [.int (nI 0), .int (nI 1), .ref q1, .ref q2, .null, .null, .null, .null, .null, .int (nI 0), .null, .null, .null])), (q1, .inl (cI, 15, .inl (fun _ => 0))), (q2, .inl (cI, 15, .inl (fun _ => 0))), (q3, .inl (cJ, 15, .inr (.inl (fun _ => 0))))] H := hP
  have hD : va_D A [(h0, .inr (1, [.int (nI 0), .int (nI 1), .ref q1, .ref q2, .null, .null, .null, .null, .null, .int (nI 0), .null, .null, .null])), (q1, .inl (cI, 15, .inl (fun _ => 0))), (q2, .inl (cI, 15, .inl (fun _ => 0))), (q3, .inl (cJ, 15, .inr (.inl (fun _ => 0))))] := hD
  refine va_putF (D := (dC, dI)) (ci := 1) (v := .ref q3) (ty := .array .long) (C := "ClearingBooksModel") (T := T_M) (N := 13) hx hb hts wi_M ty_M tyok_M nm_M hown hK hP hD hS 0 rfl rfl 4 (by decide) (hts _ kw_277) (fun _ h9 => h9) rfl hin rfl (by decide +kernel) rfl rfl (Nat.le_of_ble_eq_true rfl) d_M_init_30 (fun H locs hP hD hS => ?_)
  have hP : va_P (dC, dI) vwCl [(h0, .inr (1, [.int (nI 0), .int (nI 1), .ref q1, .ref q2, .ref q3, .null, .null, .null, .null, .int (nI 0), .null, .null, .null])), (q1, .inl (cI, 15, .inl (fun _ => 0))), (q2, .inl (cI, 15, .inl (fun _ => 0))), (q3, .inl (cJ, 15, .inr (.inl (fun _ => 0))))] H := hP
  have hD : va_D A [(h0, .inr (1, [.int (nI 0), .int (nI 1), .ref q1, .ref q2, .ref q3, .null, .null, .null, .null, .int (nI 0), .null, .null, .null])), (q1, .inl (cI, 15, .inl (fun _ => 0))), (q2, .inl (cI, 15, .inl (fun _ => 0))), (q3, .inl (cJ, 15, .inr (.inl (fun _ => 0))))] := hD
  refine lv_aload_n hx hb d_M_init_33 rfl (lv_at hl 0 rfl) ?_
  refine lv_bipush (v := nI 15) hx hb d_M_init_34 (by decide) ?_
  refine xa_newJ hx hb (hts _ kw_55) hK hP hD hS hA 1 rfl (N' := 15) (by decide) (Nat.le_of_ble_eq_true rfl) (Nat.le_of_ble_eq_true rfl) d_M_init_36 (fun q4 H hP hD hS => ?_)
  have hP : va_P (dC, dI) vwCl [(h0, .inr (1, [.int (nI 0), .int (nI 1), .ref q1, .ref q2, .ref q3, .null, .null, .null, .null, .int (nI 0), .null, .null, .null])), (q1, .inl (cI, 15, .inl (fun _ => 0))), (q2, .inl (cI, 15, .inl (fun _ => 0))), (q3, .inl (cJ, 15, .inr (.inl (fun _ => 0)))), (q4, .inl (cJ, 15, .inr (.inl (fun _ => 0))))] H := hP
  have hD : va_D A [(h0, .inr (1, [.int (nI 0), .int (nI 1), .ref q1, .ref q2, .ref q3, .null, .null, .null, .null, .int (nI 0), .null, .null, .null])), (q1, .inl (cI, 15, .inl (fun _ => 0))), (q2, .inl (cI, 15, .inl (fun _ => 0))), (q3, .inl (cJ, 15, .inr (.inl (fun _ => 0)))), (q4, .inl (cJ, 15, .inr (.inl (fun _ => 0))))] := hD
  refine va_putF (D := (dC, dI)) (ci := 1) (v := .ref q4) (ty := .array .long) (C := "ClearingBooksModel") (T := T_M) (N := 13) hx hb hts wi_M ty_M tyok_M nm_M hown hK hP hD hS 0 rfl rfl 5 (by decide) (hts _ kw_278) (fun _ h9 => h9) rfl hin rfl (by decide +kernel) rfl rfl (Nat.le_of_ble_eq_true rfl) d_M_init_38 (fun H locs hP hD hS => ?_)
  have hP : va_P (dC, dI) vwCl [(h0, .inr (1, [.int (nI 0), .int (nI 1), .ref q1, .ref q2, .ref q3, .ref q4, .null, .null, .null, .int (nI 0), .null, .null, .null])), (q1, .inl (cI, 15, .inl (fun _ => 0))), (q2, .inl (cI, 15, .inl (fun _ => 0))), (q3, .inl (cJ, 15, .inr (.inl (fun _ => 0)))), (q4, .inl (cJ, 15, .inr (.inl (fun _ => 0))))] H := hP
  have hD : va_D A [(h0, .inr (1, [.int (nI 0), .int (nI 1), .ref q1, .ref q2, .ref q3, .ref q4, .null, .null, .null, .int (nI 0), .null, .null, .null])), (q1, .inl (cI, 15, .inl (fun _ => 0))), (q2, .inl (cI, 15, .inl (fun _ => 0))), (q3, .inl (cJ, 15, .inr (.inl (fun _ => 0)))), (q4, .inl (cJ, 15, .inr (.inl (fun _ => 0))))] := hD
  refine lv_aload_n hx hb d_M_init_41 rfl (lv_at hl 0 rfl) ?_
  refine lv_bipush (v := nI 15) hx hb d_M_init_42 (by decide) ?_
  refine xa_newI hx hb (hts _ kw_54) hK hP hD hS hA 0 rfl (N' := 15) (by decide) (Nat.le_of_ble_eq_true rfl) (Nat.le_of_ble_eq_true rfl) d_M_init_44 (fun q5 H hP hD hS => ?_)
  have hP : va_P (dC, dI) vwCl [(h0, .inr (1, [.int (nI 0), .int (nI 1), .ref q1, .ref q2, .ref q3, .ref q4, .null, .null, .null, .int (nI 0), .null, .null, .null])), (q1, .inl (cI, 15, .inl (fun _ => 0))), (q2, .inl (cI, 15, .inl (fun _ => 0))), (q3, .inl (cJ, 15, .inr (.inl (fun _ => 0)))), (q4, .inl (cJ, 15, .inr (.inl (fun _ => 0)))), (q5, .inl (cI, 15, .inl (fun _ => 0)))] H := hP
  have hD : va_D A [(h0, .inr (1, [.int (nI 0), .int (nI 1), .ref q1, .ref q2, .ref q3, .ref q4, .null, .null, .null, .int (nI 0), .null, .null, .null])), (q1, .inl (cI, 15, .inl (fun _ => 0))), (q2, .inl (cI, 15, .inl (fun _ => 0))), (q3, .inl (cJ, 15, .inr (.inl (fun _ => 0)))), (q4, .inl (cJ, 15, .inr (.inl (fun _ => 0)))), (q5, .inl (cI, 15, .inl (fun _ => 0)))] := hD
  refine va_putF (D := (dC, dI)) (ci := 1) (v := .ref q5) (ty := .array .int) (C := "ClearingBooksModel") (T := T_M) (N := 13) hx hb hts wi_M ty_M tyok_M nm_M hown hK hP hD hS 0 rfl rfl 6 (by decide) (hts _ kw_279) (fun _ h9 => h9) rfl hin rfl (by decide +kernel) rfl rfl (Nat.le_of_ble_eq_true rfl) d_M_init_46 (fun H locs hP hD hS => ?_)
  have hP : va_P (dC, dI) vwCl [(h0, .inr (1, [.int (nI 0), .int (nI 1), .ref q1, .ref q2, .ref q3, .ref q4, .ref q5, .null, .null, .int (nI 0), .null, .null, .null])), (q1, .inl (cI, 15, .inl (fun _ => 0))), (q2, .inl (cI, 15, .inl (fun _ => 0))), (q3, .inl (cJ, 15, .inr (.inl (fun _ => 0)))), (q4, .inl (cJ, 15, .inr (.inl (fun _ => 0)))), (q5, .inl (cI, 15, .inl (fun _ => 0)))] H := hP
  have hD : va_D A [(h0, .inr (1, [.int (nI 0), .int (nI 1), .ref q1, .ref q2, .ref q3, .ref q4, .ref q5, .null, .null, .int (nI 0), .null, .null, .null])), (q1, .inl (cI, 15, .inl (fun _ => 0))), (q2, .inl (cI, 15, .inl (fun _ => 0))), (q3, .inl (cJ, 15, .inr (.inl (fun _ => 0)))), (q4, .inl (cJ, 15, .inr (.inl (fun _ => 0)))), (q5, .inl (cI, 15, .inl (fun _ => 0)))] := hD
  refine lv_aload_n hx hb d_M_init_49 rfl (lv_at hl 0 rfl) ?_
  refine lv_bipush (v := nI 15) hx hb d_M_init_50 (by decide) ?_
  refine xa_newJ hx hb (hts _ kw_55) hK hP hD hS hA 1 rfl (N' := 15) (by decide) (Nat.le_of_ble_eq_true rfl) (Nat.le_of_ble_eq_true rfl) d_M_init_52 (fun q6 H hP hD hS => ?_)
  have hP : va_P (dC, dI) vwCl [(h0, .inr (1, [.int (nI 0), .int (nI 1), .ref q1, .ref q2, .ref q3, .ref q4, .ref q5, .null, .null, .int (nI 0), .null, .null, .null])), (q1, .inl (cI, 15, .inl (fun _ => 0))), (q2, .inl (cI, 15, .inl (fun _ => 0))), (q3, .inl (cJ, 15, .inr (.inl (fun _ => 0)))), (q4, .inl (cJ, 15, .inr (.inl (fun _ => 0)))), (q5, .inl (cI, 15, .inl (fun _ => 0))), (q6, .inl (cJ, 15, .inr (.inl (fun _ => 0))))] H := hP
  have hD : va_D A [(h0, .inr (1, [.int (nI 0), .int (nI 1), .ref q1, .ref q2, .ref q3, .ref q4, .ref q5, .null, .null, .int (nI 0), .null, .null, .null])), (q1, .inl (cI, 15, .inl (fun _ => 0))), (q2, .inl (cI, 15, .inl (fun _ => 0))), (q3, .inl (cJ, 15, .inr (.inl (fun _ => 0)))), (q4, .inl (cJ, 15, .inr (.inl (fun _ => 0)))), (q5, .inl (cI, 15, .inl (fun _ => 0))), (q6, .inl (cJ, 15, .inr (.inl (fun _ => 0))))] := hD
  refine va_putF (D := (dC, dI)) (ci := 1) (v := .ref q6) (ty := .array .long) (C := "ClearingBooksModel") (T := T_M) (N := 13) hx hb hts wi_M ty_M tyok_M nm_M hown hK hP hD hS 0 rfl rfl 7 (by decide) (hts _ kw_280) (fun _ h9 => h9) rfl hin rfl (by decide +kernel) rfl rfl (Nat.le_of_ble_eq_true rfl) d_M_init_54 (fun H locs hP hD hS => ?_)
  have hP : va_P (dC, dI) vwCl [(h0, .inr (1, [.int (nI 0), .int (nI 1), .ref q1, .ref q2, .ref q3, .ref q4, .ref q5, .ref q6, .null, .int (nI 0), .null, .null, .null])), (q1, .inl (cI, 15, .inl (fun _ => 0))), (q2, .inl (cI, 15, .inl (fun _ => 0))), (q3, .inl (cJ, 15, .inr (.inl (fun _ => 0)))), (q4, .inl (cJ, 15, .inr (.inl (fun _ => 0)))), (q5, .inl (cI, 15, .inl (fun _ => 0))), (q6, .inl (cJ, 15, .inr (.inl (fun _ => 0))))] H := hP
  have hD : va_D A [(h0, .inr (1, [.int (nI 0), .int (nI 1), .ref q1, .ref q2, .ref q3, .ref q4, .ref q5, .ref q6, .null, .int (nI 0), .null, .null, .null])), (q1, .inl (cI, 15, .inl (fun _ => 0))), (q2, .inl (cI, 15, .inl (fun _ => 0))), (q3, .inl (cJ, 15, .inr (.inl (fun _ => 0)))), (q4, .inl (cJ, 15, .inr (.inl (fun _ => 0)))), (q5, .inl (cI, 15, .inl (fun _ => 0))), (q6, .inl (cJ, 15, .inr (.inl (fun _ => 0))))] := hD
  refine lv_aload_n hx hb d_M_init_57 rfl (lv_at hl 0 rfl) ?_
  refine lv_bipush (v := nI 15) hx hb d_M_init_58 (by decide) ?_
  refine xa_newJ hx hb (hts _ kw_55) hK hP hD hS hA 1 rfl (N' := 15) (by decide) (Nat.le_of_ble_eq_true rfl) (Nat.le_of_ble_eq_true rfl) d_M_init_60 (fun q7 H hP hD hS => ?_)
  have hP : va_P (dC, dI) vwCl [(h0, .inr (1, [.int (nI 0), .int (nI 1), .ref q1, .ref q2, .ref q3, .ref q4, .ref q5, .ref q6, .null, .int (nI 0), .null, .null, .null])), (q1, .inl (cI, 15, .inl (fun _ => 0))), (q2, .inl (cI, 15, .inl (fun _ => 0))), (q3, .inl (cJ, 15, .inr (.inl (fun _ => 0)))), (q4, .inl (cJ, 15, .inr (.inl (fun _ => 0)))), (q5, .inl (cI, 15, .inl (fun _ => 0))), (q6, .inl (cJ, 15, .inr (.inl (fun _ => 0)))), (q7, .inl (cJ, 15, .inr (.inl (fun _ => 0))))] H := hP
  have hD : va_D A [(h0, .inr (1, [.int (nI 0), .int (nI 1), .ref q1, .ref q2, .ref q3, .ref q4, .ref q5, .ref q6, .null, .int (nI 0), .null, .null, .null])), (q1, .inl (cI, 15, .inl (fun _ => 0))), (q2, .inl (cI, 15, .inl (fun _ => 0))), (q3, .inl (cJ, 15, .inr (.inl (fun _ => 0)))), (q4, .inl (cJ, 15, .inr (.inl (fun _ => 0)))), (q5, .inl (cI, 15, .inl (fun _ => 0))), (q6, .inl (cJ, 15, .inr (.inl (fun _ => 0)))), (q7, .inl (cJ, 15, .inr (.inl (fun _ => 0))))] := hD
  refine va_putF (D := (dC, dI)) (ci := 1) (v := .ref q7) (ty := .array .long) (C := "ClearingBooksModel") (T := T_M) (N := 13) hx hb hts wi_M ty_M tyok_M nm_M hown hK hP hD hS 0 rfl rfl 8 (by decide) (hts _ kw_281) (fun _ h9 => h9) rfl hin rfl (by decide +kernel) rfl rfl (Nat.le_of_ble_eq_true rfl) d_M_init_62 (fun H locs hP hD hS => ?_)
  have hP : va_P (dC, dI) vwCl [(h0, .inr (1, [.int (nI 0), .int (nI 1), .ref q1, .ref q2, .ref q3, .ref q4, .ref q5, .ref q6, .ref q7, .int (nI 0), .null, .null, .null])), (q1, .inl (cI, 15, .inl (fun _ => 0))), (q2, .inl (cI, 15, .inl (fun _ => 0))), (q3, .inl (cJ, 15, .inr (.inl (fun _ => 0)))), (q4, .inl (cJ, 15, .inr (.inl (fun _ => 0)))), (q5, .inl (cI, 15, .inl (fun _ => 0))), (q6, .inl (cJ, 15, .inr (.inl (fun _ => 0)))), (q7, .inl (cJ, 15, .inr (.inl (fun _ => 0))))] H := hP
  have hD : va_D A [(h0, .inr (1, [.int (nI 0), .int (nI 1), .ref q1, .ref q2, .ref q3, .ref q4, .ref q5, .ref q6, .ref q7, .int (nI 0), .null, .null, .null])), (q1, .inl (cI, 15, .inl (fun _ => 0))), (q2, .inl (cI, 15, .inl (fun _ => 0))), (q3, .inl (cJ, 15, .inr (.inl (fun _ => 0)))), (q4, .inl (cJ, 15, .inr (.inl (fun _ => 0)))), (q5, .inl (cI, 15, .inl (fun _ => 0))), (q6, .inl (cJ, 15, .inr (.inl (fun _ => 0)))), (q7, .inl (cJ, 15, .inr (.inl (fun _ => 0))))] := hD
  refine lv_aload_n hx hb d_M_init_65 rfl (lv_at hl 0 rfl) ?_
  refine lv_bipush (v := nI 15) hx hb d_M_init_66 (by decide) ?_
  refine xa_newI hx hb (hts _ kw_54) hK hP hD hS hA 0 rfl (N' := 15) (by decide) (Nat.le_of_ble_eq_true rfl) (Nat.le_of_ble_eq_true rfl) d_M_init_68 (fun q8 H hP hD hS => ?_)
  have hP : va_P (dC, dI) vwCl [(h0, .inr (1, [.int (nI 0), .int (nI 1), .ref q1, .ref q2, .ref q3, .ref q4, .ref q5, .ref q6, .ref q7, .int (nI 0), .null, .null, .null])), (q1, .inl (cI, 15, .inl (fun _ => 0))), (q2, .inl (cI, 15, .inl (fun _ => 0))), (q3, .inl (cJ, 15, .inr (.inl (fun _ => 0)))), (q4, .inl (cJ, 15, .inr (.inl (fun _ => 0)))), (q5, .inl (cI, 15, .inl (fun _ => 0))), (q6, .inl (cJ, 15, .inr (.inl (fun _ => 0)))), (q7, .inl (cJ, 15, .inr (.inl (fun _ => 0)))), (q8, .inl (cI, 15, .inl (fun _ => 0)))] H := hP
  have hD : va_D A [(h0, .inr (1, [.int (nI 0), .int (nI 1), .ref q1, .ref q2, .ref q3, .ref q4, .ref q5, .ref q6, .ref q7, .int (nI 0), .null, .null, .null])), (q1, .inl (cI, 15, .inl (fun _ => 0))), (q2, .inl (cI, 15, .inl (fun _ => 0))), (q3, .inl (cJ, 15, .inr (.inl (fun _ => 0)))), (q4, .inl (cJ, 15, .inr (.inl (fun _ => 0)))), (q5, .inl (cI, 15, .inl (fun _ => 0))), (q6, .inl (cJ, 15, .inr (.inl (fun _ => 0)))), (q7, .inl (cJ, 15, .inr (.inl (fun _ => 0)))), (q8, .inl (cI, 15, .inl (fun _ => 0)))] := hD
  refine va_putF (D := (dC, dI)) (ci := 1) (v := .ref q8) (ty := .array .int) (C := "ClearingBooksModel") (T := T_M) (N := 13) hx hb hts wi_M ty_M tyok_M nm_M hown hK hP hD hS 0 rfl rfl 10 (by decide) (hts _ kw_283) (fun _ h9 => h9) rfl hin rfl (by decide +kernel) rfl rfl (Nat.le_of_ble_eq_true rfl) d_M_init_70 (fun H locs hP hD hS => ?_)
  have hP : va_P (dC, dI) vwCl [(h0, .inr (1, [.int (nI 0), .int (nI 1), .ref q1, .ref q2, .ref q3, .ref q4, .ref q5, .ref q6, .ref q7, .int (nI 0), .ref q8, .null, .null])), (q1, .inl (cI, 15, .inl (fun _ => 0))), (q2, .inl (cI, 15, .inl (fun _ => 0))), (q3, .inl (cJ, 15, .inr (.inl (fun _ => 0)))), (q4, .inl (cJ, 15, .inr (.inl (fun _ => 0)))), (q5, .inl (cI, 15, .inl (fun _ => 0))), (q6, .inl (cJ, 15, .inr (.inl (fun _ => 0)))), (q7, .inl (cJ, 15, .inr (.inl (fun _ => 0)))), (q8, .inl (cI, 15, .inl (fun _ => 0)))] H := hP
  have hD : va_D A [(h0, .inr (1, [.int (nI 0), .int (nI 1), .ref q1, .ref q2, .ref q3, .ref q4, .ref q5, .ref q6, .ref q7, .int (nI 0), .ref q8, .null, .null])), (q1, .inl (cI, 15, .inl (fun _ => 0))), (q2, .inl (cI, 15, .inl (fun _ => 0))), (q3, .inl (cJ, 15, .inr (.inl (fun _ => 0)))), (q4, .inl (cJ, 15, .inr (.inl (fun _ => 0)))), (q5, .inl (cI, 15, .inl (fun _ => 0))), (q6, .inl (cJ, 15, .inr (.inl (fun _ => 0)))), (q7, .inl (cJ, 15, .inr (.inl (fun _ => 0)))), (q8, .inl (cI, 15, .inl (fun _ => 0)))] := hD
  refine lv_aload_n hx hb d_M_init_73 rfl (lv_at hl 0 rfl) ?_
  refine lv_bipush (v := nI 15) hx hb d_M_init_74 (by decide) ?_
  refine xa_newI hx hb (hts _ kw_54) hK hP hD hS hA 0 rfl (N' := 15) (by decide) (Nat.le_of_ble_eq_true rfl) (Nat.le_of_ble_eq_true rfl) d_M_init_76 (fun q9 H hP hD hS => ?_)
  have hP : va_P (dC, dI) vwCl [(h0, .inr (1, [.int (nI 0), .int (nI 1), .ref q1, .ref q2, .ref q3, .ref q4, .ref q5, .ref q6, .ref q7, .int (nI 0), .ref q8, .null, .null])), (q1, .inl (cI, 15, .inl (fun _ => 0))), (q2, .inl (cI, 15, .inl (fun _ => 0))), (q3, .inl (cJ, 15, .inr (.inl (fun _ => 0)))), (q4, .inl (cJ, 15, .inr (.inl (fun _ => 0)))), (q5, .inl (cI, 15, .inl (fun _ => 0))), (q6, .inl (cJ, 15, .inr (.inl (fun _ => 0)))), (q7, .inl (cJ, 15, .inr (.inl (fun _ => 0)))), (q8, .inl (cI, 15, .inl (fun _ => 0))), (q9, .inl (cI, 15, .inl (fun _ => 0)))] H := hP
  have hD : va_D A [(h0, .inr (1, [.int (nI 0), .int (nI 1), .ref q1, .ref q2, .ref q3, .ref q4, .ref q5, .ref q6, .ref q7, .int (nI 0), .ref q8, .null, .null])), (q1, .inl (cI, 15, .inl (fun _ => 0))), (q2, .inl (cI, 15, .inl (fun _ => 0))), (q3, .inl (cJ, 15, .inr (.inl (fun _ => 0)))), (q4, .inl (cJ, 15, .inr (.inl (fun _ => 0)))), (q5, .inl (cI, 15, .inl (fun _ => 0))), (q6, .inl (cJ, 15, .inr (.inl (fun _ => 0)))), (q7, .inl (cJ, 15, .inr (.inl (fun _ => 0)))), (q8, .inl (cI, 15, .inl (fun _ => 0))), (q9, .inl (cI, 15, .inl (fun _ => 0)))] := hD
  refine va_putF (D := (dC, dI)) (ci := 1) (v := .ref q9) (ty := .array .int) (C := "ClearingBooksModel") (T := T_M) (N := 13) hx hb hts wi_M ty_M tyok_M nm_M hown hK hP hD hS 0 rfl rfl 11 (by decide) (hts _ kw_284) (fun _ h9 => h9) rfl hin rfl (by decide +kernel) rfl rfl (Nat.le_of_ble_eq_true rfl) d_M_init_78 (fun H locs hP hD hS => ?_)
  have hP : va_P (dC, dI) vwCl [(h0, .inr (1, [.int (nI 0), .int (nI 1), .ref q1, .ref q2, .ref q3, .ref q4, .ref q5, .ref q6, .ref q7, .int (nI 0), .ref q8, .ref q9, .null])), (q1, .inl (cI, 15, .inl (fun _ => 0))), (q2, .inl (cI, 15, .inl (fun _ => 0))), (q3, .inl (cJ, 15, .inr (.inl (fun _ => 0)))), (q4, .inl (cJ, 15, .inr (.inl (fun _ => 0)))), (q5, .inl (cI, 15, .inl (fun _ => 0))), (q6, .inl (cJ, 15, .inr (.inl (fun _ => 0)))), (q7, .inl (cJ, 15, .inr (.inl (fun _ => 0)))), (q8, .inl (cI, 15, .inl (fun _ => 0))), (q9, .inl (cI, 15, .inl (fun _ => 0)))] H := hP
  have hD : va_D A [(h0, .inr (1, [.int (nI 0), .int (nI 1), .ref q1, .ref q2, .ref q3, .ref q4, .ref q5, .ref q6, .ref q7, .int (nI 0), .ref q8, .ref q9, .null])), (q1, .inl (cI, 15, .inl (fun _ => 0))), (q2, .inl (cI, 15, .inl (fun _ => 0))), (q3, .inl (cJ, 15, .inr (.inl (fun _ => 0)))), (q4, .inl (cJ, 15, .inr (.inl (fun _ => 0)))), (q5, .inl (cI, 15, .inl (fun _ => 0))), (q6, .inl (cJ, 15, .inr (.inl (fun _ => 0)))), (q7, .inl (cJ, 15, .inr (.inl (fun _ => 0)))), (q8, .inl (cI, 15, .inl (fun _ => 0))), (q9, .inl (cI, 15, .inl (fun _ => 0)))] := hD
  refine lv_aload_n hx hb d_M_init_81 rfl (lv_at hl 0 rfl) ?_
  refine lv_bipush (v := nI 15) hx hb d_M_init_82 (by decide) ?_
  refine xa_newJ hx hb (hts _ kw_55) hK hP hD hS hA 1 rfl (N' := 15) (by decide) (Nat.le_of_ble_eq_true rfl) (Nat.le_of_ble_eq_true rfl) d_M_init_84 (fun q10 H hP hD hS => ?_)
  have hP : va_P (dC, dI) vwCl [(h0, .inr (1, [.int (nI 0), .int (nI 1), .ref q1, .ref q2, .ref q3, .ref q4, .ref q5, .ref q6, .ref q7, .int (nI 0), .ref q8, .ref q9, .null])), (q1, .inl (cI, 15, .inl (fun _ => 0))), (q2, .inl (cI, 15, .inl (fun _ => 0))), (q3, .inl (cJ, 15, .inr (.inl (fun _ => 0)))), (q4, .inl (cJ, 15, .inr (.inl (fun _ => 0)))), (q5, .inl (cI, 15, .inl (fun _ => 0))), (q6, .inl (cJ, 15, .inr (.inl (fun _ => 0)))), (q7, .inl (cJ, 15, .inr (.inl (fun _ => 0)))), (q8, .inl (cI, 15, .inl (fun _ => 0))), (q9, .inl (cI, 15, .inl (fun _ => 0))), (q10, .inl (cJ, 15, .inr (.inl (fun _ => 0))))] H := hP
  have hD : va_D A [(h0, .inr (1, [.int (nI 0), .int (nI 1), .ref q1, .ref q2, .ref q3, .ref q4, .ref q5, .ref q6, .ref q7, .int (nI 0), .ref q8, .ref q9, .null])), (q1, .inl (cI, 15, .inl (fun _ => 0))), (q2, .inl (cI, 15, .inl (fun _ => 0))), (q3, .inl (cJ, 15, .inr (.inl (fun _ => 0)))), (q4, .inl (cJ, 15, .inr (.inl (fun _ => 0)))), (q5, .inl (cI, 15, .inl (fun _ => 0))), (q6, .inl (cJ, 15, .inr (.inl (fun _ => 0)))), (q7, .inl (cJ, 15, .inr (.inl (fun _ => 0)))), (q8, .inl (cI, 15, .inl (fun _ => 0))), (q9, .inl (cI, 15, .inl (fun _ => 0))), (q10, .inl (cJ, 15, .inr (.inl (fun _ => 0))))] := hD
  refine va_putF (D := (dC, dI)) (ci := 1) (v := .ref q10) (ty := .array .long) (C := "ClearingBooksModel") (T := T_M) (N := 13) hx hb hts wi_M ty_M tyok_M nm_M hown hK hP hD hS 0 rfl rfl 12 (by decide) (hts _ kw_285) (fun _ h9 => h9) rfl hin rfl (by decide +kernel) rfl rfl (Nat.le_of_ble_eq_true rfl) d_M_init_86 (fun H locs hP hD hS => ?_)
  have hP : va_P (dC, dI) vwCl [(h0, .inr (1, [.int (nI 0), .int (nI 1), .ref q1, .ref q2, .ref q3, .ref q4, .ref q5, .ref q6, .ref q7, .int (nI 0), .ref q8, .ref q9, .ref q10])), (q1, .inl (cI, 15, .inl (fun _ => 0))), (q2, .inl (cI, 15, .inl (fun _ => 0))), (q3, .inl (cJ, 15, .inr (.inl (fun _ => 0)))), (q4, .inl (cJ, 15, .inr (.inl (fun _ => 0)))), (q5, .inl (cI, 15, .inl (fun _ => 0))), (q6, .inl (cJ, 15, .inr (.inl (fun _ => 0)))), (q7, .inl (cJ, 15, .inr (.inl (fun _ => 0)))), (q8, .inl (cI, 15, .inl (fun _ => 0))), (q9, .inl (cI, 15, .inl (fun _ => 0))), (q10, .inl (cJ, 15, .inr (.inl (fun _ => 0))))] H := hP
  have hD : va_D A [(h0, .inr (1, [.int (nI 0), .int (nI 1), .ref q1, .ref q2, .ref q3, .ref q4, .ref q5, .ref q6, .ref q7, .int (nI 0), .ref q8, .ref q9, .ref q10])), (q1, .inl (cI, 15, .inl (fun _ => 0))), (q2, .inl (cI, 15, .inl (fun _ => 0))), (q3, .inl (cJ, 15, .inr (.inl (fun _ => 0)))), (q4, .inl (cJ, 15, .inr (.inl (fun _ => 0)))), (q5, .inl (cI, 15, .inl (fun _ => 0))), (q6, .inl (cJ, 15, .inr (.inl (fun _ => 0)))), (q7, .inl (cJ, 15, .inr (.inl (fun _ => 0)))), (q8, .inl (cI, 15, .inl (fun _ => 0))), (q9, .inl (cI, 15, .inl (fun _ => 0))), (q10, .inl (cJ, 15, .inr (.inl (fun _ => 0))))] := hD
  refine W.widen (k := 10) (n := 150) (Nat.le_of_ble_eq_true rfl) (Nat.le_of_ble_eq_true rfl) ?_
  exact W.vret hx hb hr (fun t ht hW => ⟨⟨adf h0 q1 q2 q3 q4 q5 q6 q7 q8 q9 q10, rfl, rfl, by rw [ht]; exact hP, va_K.moved hW.alike hK, hD⟩, hS.F ht⟩) hS.2.2 d_M_init_89
end
