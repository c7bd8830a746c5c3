section
-- ===== PART A: goes FIRST, ahead of the names: the tables' words, and 'selects' of the private methods out of them =====
/-- a private method of a class that the tables say can be made, by its rows of tables_1 -/
def lw_okq (q : MethodName × Nat) : Prop := (q.1.cls ≠ "java/lang/invoke/MethodHandle" ∧ q.1.cls ≠ "java/lang/invoke/VarHandle") ∧ Cond.instantiable q.1.cls q.2 ∈ tables_1 ∧ Cond.privateMethod q.1 ∈ tables_1 ∧ Cond.instanceMethod q.1 ∈ tables_1
theorem lw_p0 : lw_okq (⟨"ClearingBooks", "makeTransfers", "()V"⟩, 12) := ⟨⟨by decide +kernel, by decide +kernel⟩, List.mem_of_getElem? (i := 10) (by decide +kernel), List.mem_of_getElem? (i := 61) (by decide +kernel), List.mem_of_getElem? (i := 62) (by decide +kernel)⟩
theorem lw_p1 : lw_okq (⟨"ClearingBooks", "leastOpen", "()I"⟩, 12) := ⟨⟨by decide +kernel, by decide +kernel⟩, List.mem_of_getElem? (i := 10) (by decide +kernel), List.mem_of_getElem? (i := 65) (by decide +kernel), List.mem_of_getElem? (i := 66) (by decide +kernel)⟩
theorem lw_p2 : lw_okq (⟨"ClearingBooks", "greatestOpen", "()I"⟩, 12) := ⟨⟨by decide +kernel, by decide +kernel⟩, List.mem_of_getElem? (i := 10) (by decide +kernel), List.mem_of_getElem? (i := 69) (by decide +kernel), List.mem_of_getElem? (i := 70) (by decide +kernel)⟩
theorem lw_p3 : lw_okq (⟨"ClearingBooks", "makeTransfer", "(II)V"⟩, 12) := ⟨⟨by decide +kernel, by decide +kernel⟩, List.mem_of_getElem? (i := 10) (by decide +kernel), List.mem_of_getElem? (i := 73) (by decide +kernel), List.mem_of_getElem? (i := 74) (by decide +kernel)⟩
theorem lw_p4 : lw_okq (⟨"ClearingBooks", "sumOf", "([J)J"⟩, 12) := ⟨⟨by decide +kernel, by decide +kernel⟩, List.mem_of_getElem? (i := 10) (by decide +kernel), List.mem_of_getElem? (i := 88) (by decide +kernel), List.mem_of_getElem? (i := 89) (by decide +kernel)⟩
theorem lw_p5 : lw_okq (⟨"ClearingBooks", "enter", "(II)I"⟩, 12) := ⟨⟨by decide +kernel, by decide +kernel⟩, List.mem_of_getElem? (i := 10) (by decide +kernel), List.mem_of_getElem? (i := 101) (by decide +kernel), List.mem_of_getElem? (i := 102) (by decide +kernel)⟩
theorem lw_p6 : lw_okq (⟨"java/lang/Throwable", "fillInStackTrace", "(I)Ljava/lang/Throwable;"⟩, 6) := ⟨⟨by decide +kernel, by decide +kernel⟩, List.mem_of_getElem? (i := 142) (by decide +kernel), List.mem_of_getElem? (i := 140) (by decide +kernel), List.mem_of_getElem? (i := 141) (by decide +kernel)⟩
theorem lw_p7 : lw_okq (⟨"ClearingBooks", "requireKind", "(II)V"⟩, 12) := ⟨⟨by decide +kernel, by decide +kernel⟩, List.mem_of_getElem? (i := 10) (by decide +kernel), List.mem_of_getElem? (i := 202) (by decide +kernel), List.mem_of_getElem? (i := 203) (by decide +kernel)⟩
theorem lw_p8 : lw_okq (⟨"ClearingBooks", "isParty", "(I)Z"⟩, 12) := ⟨⟨by decide +kernel, by decide +kernel⟩, List.mem_of_getElem? (i := 10) (by decide +kernel), List.mem_of_getElem? (i := 206) (by decide +kernel), List.mem_of_getElem? (i := 207) (by decide +kernel)⟩
theorem lw_p9 : lw_okq (⟨"ClearingBooks", "placeOf", "(I)I"⟩, 12) := ⟨⟨by decide +kernel, by decide +kernel⟩, List.mem_of_getElem? (i := 10) (by decide +kernel), List.mem_of_getElem? (i := 263) (by decide +kernel), List.mem_of_getElem? (i := 264) (by decide +kernel)⟩
theorem lw_p10 : lw_okq (⟨"ClearingBooksModel", "come", "(II)I"⟩, 13) := ⟨⟨by decide +kernel, by decide +kernel⟩, List.mem_of_getElem? (i := 268) (by decide +kernel), List.mem_of_getElem? (i := 322) (by decide +kernel), List.mem_of_getElem? (i := 323) (by decide +kernel)⟩
theorem lw_p11 : lw_okq (⟨"ClearingBooksModel", "is", "(II)Z"⟩, 13) := ⟨⟨by decide +kernel, by decide +kernel⟩, List.mem_of_getElem? (i := 268) (by decide +kernel), List.mem_of_getElem? (i := 334) (by decide +kernel), List.mem_of_getElem? (i := 335) (by decide +kernel)⟩
theorem lw_p12 : lw_okq (⟨"ClearingBooksModel", "goes", "(Z)Z"⟩, 13) := ⟨⟨by decide +kernel, by decide +kernel⟩, List.mem_of_getElem? (i := 268) (by decide +kernel), List.mem_of_getElem? (i := 339) (by decide +kernel), List.mem_of_getElem? (i := 340) (by decide +kernel)⟩
def lw_privs_1 : List (MethodName × Nat) := [(⟨"ClearingBooks", "makeTransfers", "()V"⟩, 12), (⟨"ClearingBooks", "leastOpen", "()I"⟩, 12), (⟨"ClearingBooks", "greatestOpen", "()I"⟩, 12), (⟨"ClearingBooks", "makeTransfer", "(II)V"⟩, 12), (⟨"ClearingBooks", "sumOf", "([J)J"⟩, 12), (⟨"ClearingBooks", "enter", "(II)I"⟩, 12), (⟨"java/lang/Throwable", "fillInStackTrace", "(I)Ljava/lang/Throwable;"⟩, 6), (⟨"ClearingBooks", "requireKind", "(II)V"⟩, 12), (⟨"ClearingBooks", "isParty", "(I)Z"⟩, 12), (⟨"ClearingBooks", "placeOf", "(I)I"⟩, 12), (⟨"ClearingBooksModel", "come", "(II)I"⟩, 13), (⟨"ClearingBooksModel", "is", "(II)Z"⟩, 13), (⟨"ClearingBooksModel", "goes", "(Z)Z"⟩, 13)]
theorem lw_r1 : ∀ q ∈ lw_privs_1, lw_okq q := List.forall_mem_cons.mpr ⟨lw_p0, List.forall_mem_cons.mpr ⟨lw_p1, List.forall_mem_cons.mpr ⟨lw_p2, List.forall_mem_cons.mpr ⟨lw_p3, List.forall_mem_cons.mpr ⟨lw_p4, List.forall_mem_cons.mpr ⟨lw_p5, List.forall_mem_cons.mpr ⟨lw_p6, List.forall_mem_cons.mpr ⟨lw_p7, List.forall_mem_cons.mpr ⟨lw_p8, List.forall_mem_cons.mpr ⟨lw_p9, List.forall_mem_cons.mpr ⟨lw_p10, List.forall_mem_cons.mpr ⟨lw_p11, List.forall_mem_cons.mpr ⟨lw_p12, fun _ h => absurd h List.not_mem_nil⟩⟩⟩⟩⟩⟩⟩⟩⟩⟩⟩⟩⟩
def lw_privs : List (MethodName × Nat) := lw_privs_1
def lw_tbl : List Cond := k2_sels lw_privs ++ tables_1
theorem lw_privs_ok : ∀ q ∈ lw_privs, lw_okq q := lw_r1
def T_B : u_T := fun k => match k with
  | 0 => ("ClearingBooks", "partyCount", "I", false)
  | 1 => ("ClearingBooks", "kinds", "[I", true)
  | 2 => ("ClearingBooks", "rates", "[I", true)
  | 3 => ("ClearingBooks", "positions", "[J", true)
  | 4 => ("ClearingBooks", "settled", "[J", true)
  | 5 => ("ClearingBooks", "batchCounts", "[I", true)
  | 6 => ("ClearingBooks", "batchSums", "[J", true)
  | 7 => ("ClearingBooks", "open", "[J", true)
  | 8 => ("ClearingBooks", "transferCount", "I", false)
  | 9 => ("ClearingBooks", "payers", "[I", true)
  | 10 => ("ClearingBooks", "payees", "[I", true)
  | _ => ("ClearingBooks", "payments", "[J", true)
def ty_B : Nat → FieldType := fun k => match k with
  | 0 => .int
  | 1 => .array .int
  | 2 => .array .int
  | 3 => .array .long
  | 4 => .array .long
  | 5 => .array .int
  | 6 => .array .long
  | 7 => .array .long
  | 8 => .int
  | 9 => .array .int
  | 10 => .array .int
  | _ => .array .long
theorem nm_B : ∀ a, a < 12 → ∀ b, b < 12 → a ≠ b → (T_B a).2.1 ≠ (T_B b).2.1 := by decide +kernel
theorem tyok_B : ∀ k, k < 12 → parseFieldDescriptor (T_B k).2.2.1 = some (ty_B k) := by decide +kernel
def T_M : u_T := fun k => match k with
  | 0 => ("ClearingBooksModel", "code", "I", false)
  | 1 => ("ClearingBooksModel", "parties", "I", false)
  | 2 => ("ClearingBooksModel", "kind", "[I", true)
  | 3 => ("ClearingBooksModel", "rate", "[I", true)
  | 4 => ("ClearingBooksModel", "position", "[J", true)
  | 5 => ("ClearingBooksModel", "settled", "[J", true)
  | 6 => ("ClearingBooksModel", "count", "[I", true)
  | 7 => ("ClearingBooksModel", "sum", "[J", true)
  | 8 => ("ClearingBooksModel", "open", "[J", true)
  | 9 => ("ClearingBooksModel", "transfers", "I", false)
  | 10 => ("ClearingBooksModel", "payer", "[I", true)
  | 11 => ("ClearingBooksModel", "payee", "[I", true)
  | _ => ("ClearingBooksModel", "paid", "[J", true)
def ty_M : Nat → FieldType := fun k => match k with
  | 0 => .int
  | 1 => .int
  | 2 => .array .int
  | 3 => .array .int
  | 4 => .array .long
  | 5 => .array .long
  | 6 => .array .int
  | 7 => .array .long
  | 8 => .array .long
  | 9 => .int
  | 10 => .array .int
  | 11 => .array .int
  | _ => .array .long
theorem nm_M : ∀ a, a < 13 → ∀ b, b < 13 → a ≠ b → (T_M a).2.1 ≠ (T_M b).2.1 := by decide +kernel
theorem tyok_M : ∀ k, k < 13 → parseFieldDescriptor (T_M k).2.2.1 = some (ty_M k) := by decide +kernel
abbrev vwCl : List vw_C := [("ClearingBooks", T_B, 12), ("ClearingBooksModel", T_M, 13)]
abbrev b_B_init : ByteArray := prog_1_method_1_code
abbrev y_B_init : MethodName := ⟨"ClearingBooks", "<init>", "()V"⟩
abbrev b_B_settle : ByteArray := prog_1_method_8_code
abbrev y_B_settle : MethodName := ⟨"ClearingBooks", "settle", "()I"⟩
abbrev b_B_makeTransfers : ByteArray := prog_1_method_19_code
abbrev y_B_makeTransfers : MethodName := ⟨"ClearingBooks", "makeTransfers", "()V"⟩
abbrev b_B_leastOpen : ByteArray := prog_1_method_21_code
abbrev y_B_leastOpen : MethodName := ⟨"ClearingBooks", "leastOpen", "()I"⟩
abbrev b_B_greatestOpen : ByteArray := prog_1_method_22_code
abbrev y_B_greatestOpen : MethodName := ⟨"ClearingBooks", "greatestOpen", "()I"⟩
abbrev b_B_makeTransfer : ByteArray := prog_1_method_20_code
abbrev y_B_makeTransfer : MethodName := ⟨"ClearingBooks", "makeTransfer", "(II)V"⟩
abbrev b_B_parties : ByteArray := prog_1_method_11_code
abbrev y_B_parties : MethodName := ⟨"ClearingBooks", "parties", "()I"⟩
abbrev b_B_audit : ByteArray := prog_1_method_12_code
abbrev y_B_audit : MethodName := ⟨"ClearingBooks", "audit", "()I"⟩
abbrev b_B_sumOf : ByteArray := prog_1_method_24_code
abbrev y_B_sumOf : MethodName := ⟨"ClearingBooks", "sumOf", "([J)J"⟩
abbrev b_L_acquirer : ByteArray := method_3_code
abbrev y_L_acquirer : MethodName := ⟨"ClearingBooksLaw", "acquirer", "(LClearingBooks;I[J)I"⟩
abbrev b_B_acquirer : ByteArray := prog_1_method_2_code
abbrev y_B_acquirer : MethodName := ⟨"ClearingBooks", "acquirer", "(I)I"⟩
abbrev b_B_enter : ByteArray := prog_1_method_13_code
abbrev y_B_enter : MethodName := ⟨"ClearingBooks", "enter", "(II)I"⟩
abbrev b_L_issuer : ByteArray := method_4_code
abbrev y_L_issuer : MethodName := ⟨"ClearingBooksLaw", "issuer", "(LClearingBooks;I[J)I"⟩
abbrev b_B_issuer : ByteArray := prog_1_method_3_code
abbrev y_B_issuer : MethodName := ⟨"ClearingBooks", "issuer", "(I)I"⟩
abbrev b_L_clear : ByteArray := method_5_code
abbrev y_L_clear : MethodName := ⟨"ClearingBooksLaw", "clear", "(LClearingBooks;IIJ[J)I"⟩
abbrev b_B_clear : ByteArray := prog_1_method_4_code
abbrev y_B_clear : MethodName := ⟨"ClearingBooks", "clear", "(IIJ)J"⟩
abbrev b_B_requireKind : ByteArray := prog_1_method_15_code
abbrev y_B_requireKind : MethodName := ⟨"ClearingBooks", "requireKind", "(II)V"⟩
abbrev b_B_isParty : ByteArray := prog_1_method_14_code
abbrev y_B_isParty : MethodName := ⟨"ClearingBooks", "isParty", "(I)Z"⟩
abbrev b_B_requireAmount : ByteArray := prog_1_method_16_code
abbrev y_B_requireAmount : MethodName := ⟨"ClearingBooks", "requireAmount", "(JJ)V"⟩
abbrev b_B_partRoundedUp : ByteArray := prog_1_method_18_code
abbrev y_B_partRoundedUp : MethodName := ⟨"ClearingBooks", "partRoundedUp", "(JI)J"⟩
abbrev b_B_partRoundedDown : ByteArray := prog_1_method_17_code
abbrev y_B_partRoundedDown : MethodName := ⟨"ClearingBooks", "partRoundedDown", "(JI)J"⟩
abbrev b_L_back : ByteArray := method_6_code
abbrev y_L_back : MethodName := ⟨"ClearingBooksLaw", "back", "(LClearingBooks;IIJ[J)I"⟩
abbrev b_B_back : ByteArray := prog_1_method_5_code
abbrev y_B_back : MethodName := ⟨"ClearingBooks", "back", "(IIJ)J"⟩
abbrev b_L_reconcile : ByteArray := method_7_code
abbrev y_L_reconcile : MethodName := ⟨"ClearingBooksLaw", "reconcile", "(LClearingBooks;IIJ[J)I"⟩
abbrev b_B_reconcile : ByteArray := prog_1_method_6_code
abbrev y_B_reconcile : MethodName := ⟨"ClearingBooks", "reconcile", "(IIJ)Z"⟩
abbrev b_L_batch : ByteArray := method_8_code
abbrev y_L_batch : MethodName := ⟨"ClearingBooksLaw", "batch", "(LClearingBooks;II[J)I"⟩
abbrev b_B_batch : ByteArray := prog_1_method_7_code
abbrev y_B_batch : MethodName := ⟨"ClearingBooks", "batch", "(II)J"⟩
abbrev b_L_transfer : ByteArray := method_9_code
abbrev y_L_transfer : MethodName := ⟨"ClearingBooksLaw", "transfer", "(LClearingBooks;II[J)I"⟩
abbrev b_B_transfer : ByteArray := prog_1_method_9_code
abbrev y_B_transfer : MethodName := ⟨"ClearingBooks", "transfer", "(II)J"⟩
abbrev b_L_party : ByteArray := method_10_code
abbrev y_L_party : MethodName := ⟨"ClearingBooksLaw", "party", "(LClearingBooks;II[J)I"⟩
abbrev b_B_party : ByteArray := prog_1_method_10_code
abbrev y_B_party : MethodName := ⟨"ClearingBooks", "party", "(II)J"⟩
abbrev b_B_placeOf : ByteArray := prog_1_method_23_code
abbrev y_B_placeOf : MethodName := ⟨"ClearingBooks", "placeOf", "(I)I"⟩
abbrev b_M_init : ByteArray := prog_3_method_1_code
abbrev y_M_init : MethodName := ⟨"ClearingBooksModel", "<init>", "()V"⟩
abbrev b_M_thrown : ByteArray := prog_3_method_2_code
abbrev y_M_thrown : MethodName := ⟨"ClearingBooksModel", "thrown", "()I"⟩
abbrev b_M_acquirer : ByteArray := prog_3_method_6_code
abbrev y_M_acquirer : MethodName := ⟨"ClearingBooksModel", "acquirer", "(I)I"⟩
abbrev b_M_come : ByteArray := prog_3_method_5_code
abbrev y_M_come : MethodName := ⟨"ClearingBooksModel", "come", "(II)I"⟩
abbrev b_M_issuer : ByteArray := prog_3_method_7_code
abbrev y_M_issuer : MethodName := ⟨"ClearingBooksModel", "issuer", "(I)I"⟩
abbrev b_M_clear : ByteArray := prog_3_method_8_code
abbrev y_M_clear : MethodName := ⟨"ClearingBooksModel", "clear", "(IIJ)J"⟩
abbrev b_M_is : ByteArray := prog_3_method_4_code
abbrev y_M_is : MethodName := ⟨"ClearingBooksModel", "is", "(II)Z"⟩
abbrev b_M_goes : ByteArray := prog_3_method_3_code
abbrev y_M_goes : MethodName := ⟨"ClearingBooksModel", "goes", "(Z)Z"⟩
abbrev b_M_back : ByteArray := prog_3_method_9_code
abbrev y_M_back : MethodName := ⟨"ClearingBooksModel", "back", "(IIJ)J"⟩
abbrev b_M_reconcile : ByteArray := prog_3_method_10_code
abbrev y_M_reconcile : MethodName := ⟨"ClearingBooksModel", "reconcile", "(IIJ)Z"⟩
abbrev b_M_batch : ByteArray := prog_3_method_11_code
abbrev y_M_batch : MethodName := ⟨"ClearingBooksModel", "batch", "(II)J"⟩
abbrev b_M_settle : ByteArray := prog_3_method_12_code
abbrev y_M_settle : MethodName := ⟨"ClearingBooksModel", "settle", "()I"⟩
abbrev b_M_transfer : ByteArray := prog_3_method_13_code
abbrev y_M_transfer : MethodName := ⟨"ClearingBooksModel", "transfer", "(II)J"⟩
abbrev b_M_party : ByteArray := prog_3_method_14_code
abbrev y_M_party : MethodName := ⟨"ClearingBooksModel", "party", "(II)J"⟩
abbrev b_M_parties : ByteArray := prog_3_method_15_code
abbrev y_M_parties : MethodName := ⟨"ClearingBooksModel", "parties", "()I"⟩
abbrev b_M_audit : ByteArray := prog_3_method_16_code
abbrev y_M_audit : MethodName := ⟨"ClearingBooksModel", "audit", "()I"⟩
abbrev b_L_law : ByteArray := code
abbrev y_L_law : MethodName := ⟨"ClearingBooksLaw", "law", "([I)Z"⟩
end
section
/-! rows of my own over the kit's: an index that is a natural; a call that changes nothing; the heap's words that a throw needs -/
section XA
variable {p : Program} {l : Launch} {e : Env} {R : Room} {s : State} {m : MethodId} {args : Array Value} {below : List Frame} {meth : Method} {c : Code} {H : Heap} {locs : List Loc} {cells slots : Nat} {Q : State → Prop}
variable {cc : ByteArray} {pc : Nat} {ls : Array Slot} {rest : List Value} {D : va_G} {cl : List vw_C} {A : Nat → Prop} {a : Nat} {tys : List (ClassId × FieldType)} {ws : va_W} {H0 : Heap}
theorem xa_iaload (hexec : p.tables.exec = Jvm.exec) (hb : c.code = cc) (hK : va_K D cl tys s) (hP : va_P D cl ws H) (q0 t0 : Nat) {cA : ClassId} {n : Nat} {f : Nat → Int32} (ha : ws[q0]? = some (a, .inl (cA, n, .inl f))) (ht : tys[t0]? = some (cA, .int)) {j : Nat} (hj : j < n) (hn : n < 2 ^ 31) (hdg : decode cc pc = .ok (.iaload, 1))
    (kk : W p l e R s m args below meth c H locs cells slots Q (F0 m (pc + 1) ls (.int (f j) :: rest))) : W p l e R s m args below meth c H locs cells slots Q (F0 m pc ls (.int (nI j) :: .ref a :: rest)) :=
  va_iald hexec hb hK hP q0 t0 ha ht (vp_in_nI hj hn) hdg (by rw [nI_clamp (Nat.lt_trans hj hn)]; exact kk)
theorem xa_laload (hexec : p.tables.exec = Jvm.exec) (hb : c.code = cc) (hK : va_K D cl tys s) (hP : va_P D cl ws H) (q0 t0 : Nat) {cA : ClassId} {n : Nat} {f : Nat → Int64} (ha : ws[q0]? = some (a, .inl (cA, n, .inr (.inl f)))) (ht : tys[t0]? = some (cA, .long)) {j : Nat} (hj : j < n) (hn : n < 2 ^ 31) (hdg : decode cc pc = .ok (.laload, 1))
    (kk : W p l e R s m args below meth c H locs cells slots Q (F0 m (pc + 1) ls (.long (f j) :: rest))) : W p l e R s m args below meth c H locs cells slots Q (F0 m pc ls (.int (nI j) :: .ref a :: rest)) :=
  va_lald hexec hb hK hP q0 t0 ha ht (vp_in_nI hj hn) hdg (by rw [nI_clamp (Nat.lt_trans hj hn)]; exact kk)
theorem xa_iastore (hexec : p.tables.exec = Jvm.exec) (hb : c.code = cc) (hK : va_K D cl tys s) (hP : va_P D cl ws H) (hD : va_D A ws) (hS : va_S A H0 H locs) (q0 t0 : Nat) {cA : ClassId} {n : Nat} {f : Nat → Int32} (ha : ws[q0]? = some (a, .inl (cA, n, .inl f))) (ht : tys[t0]? = some (cA, .int)) {j : Nat} {x : Int32} (hj : j < n) (hn : n < 2 ^ 31) (hdg : decode cc pc = .ok (.iastore, 1))
    (kk : ∀ (H1 : Heap) (locs1 : List Loc), va_P D cl (ws.set q0 (a, .inl (cA, n, .inl (upd f j x)))) H1 → va_D A (ws.set q0 (a, .inl (cA, n, .inl (upd f j x)))) → va_S A H0 H1 locs1 → W p l e R s m args below meth c H1 locs1 cells slots Q (F0 m (pc + 1) ls rest)) : W p l e R s m args below meth c H locs cells slots Q (F0 m pc ls (.int x :: .int (nI j) :: .ref a :: rest)) := by
  refine va_iast hexec hb hK hP hD hS q0 t0 ha ht (vp_in_nI hj hn) hdg (fun H1 l1 h1 h2 h3 => ?_)
  rw [nI_clamp (Nat.lt_trans hj hn)] at h1 h2
  exact kk H1 l1 h1 h2 h3
theorem xa_lastore (hexec : p.tables.exec = Jvm.exec) (hb : c.code = cc) (hK : va_K D cl tys s) (hP : va_P D cl ws H) (hD : va_D A ws) (hS : va_S A H0 H locs) (q0 t0 : Nat) {cA : ClassId} {n : Nat} {f : Nat → Int64} (ha : ws[q0]? = some (a, .inl (cA, n, .inr (.inl f)))) (ht : tys[t0]? = some (cA, .long)) {j : Nat} {x : Int64} (hj : j < n) (hn : n < 2 ^ 31) (hdg : decode cc pc = .ok (.lastore, 1))
    (kk : ∀ (H1 : Heap) (locs1 : List Loc), va_P D cl (ws.set q0 (a, .inl (cA, n, .inr (.inl (vp_updL f j x))))) H1 → va_D A (ws.set q0 (a, .inl (cA, n, .inr (.inl (vp_updL f j x))))) → va_S A H0 H1 locs1 → W p l e R s m args below meth c H1 locs1 cells slots Q (F0 m (pc + 1) ls rest)) : W p l e R s m args below meth c H locs cells slots Q (F0 m pc ls (.long x :: .int (nI j) :: .ref a :: rest)) := by
  refine va_last hexec hb hK hP hD hS q0 t0 ha ht (vp_in_nI hj hn) hdg (fun H1 l1 h1 h2 h3 => ?_)
  rw [nI_clamp (Nat.lt_trans hj hn)] at h1 h2
  exact kk H1 l1 h1 h2 h3
/-- a method that changes nothing and answers v -/
def ro_Q (v : Option Value) : Array Value → State → Outcome → State → Prop := fun _ st o t => o = .returned v ∧ t.heap = st.heap
theorem ro_call {g : JFrame} {v : Option Value} {av : Array Value} {rest : List Value} (hr : va_Run p l e R s m args below meth c H locs cells slots 0 0 g rest (ro_Q v av) (fun _ => False)) (kk : W p l e R s m args below meth c H locs cells slots Q { g with pc := g.pc + 3, stack := v.toList ++ rest }) : W p l e R s m args below meth c H locs cells slots Q g := by
  intro T hT X
  obtain ⟨v', st₀, t, T', L, h0, X', hL, e1, e2, ⟨hv, hh⟩, st⟩ := hr T hT X
  cases hv
  obtain ⟨t2, a1, b1⟩ := kk T' (by rw [e1, hh, h0]) (Stand.forget X' (fun q h => (hL q h).elim))
  exact ⟨t2, st t2 a1, b1⟩
end XA
section XC
/-- the words of a throw that lie in the heap: where Throwable keeps its two statics -/
def xc_w : List Cond := [.laysStatic Bundle.tN "UNASSIGNED_STACK" Bundle.steD, .laysStatic Bundle.tN "SUPPRESSED_SENTINEL" Bundle.listD, .isRef (.static Bundle.tN "UNASSIGNED_STACK" Bundle.steD), .isRef (.static Bundle.tN "SUPPRESSED_SENTINEL" Bundle.listD)]
/-- .. and those that lie in the tables but may be asked only where they are known -/
def xc_f : List Cond := [.castable "java/lang/IllegalArgumentException" "java/lang/IllegalArgumentException", .castable "java/lang/IllegalStateException" "java/lang/IllegalStateException", .declares ⟨"java/lang/RuntimeException", "<init>", "(Ljava/lang/String;)V"⟩, .declares ⟨"java/lang/Exception", "<init>", "(Ljava/lang/String;)V"⟩, .declares ⟨"java/lang/Throwable", "<init>", "(Ljava/lang/String;)V"⟩]
def xc_ok (own : String) (ks : List (Nat × String)) (U : State) : Prop := (∀ w ∈ xc_w, w.before #[] U = true) ∧ (∀ q ∈ ks, ∃ sa, vk_R own q.1 q.2 sa U) ∧ (∀ w ∈ xc_f, w.before #[] U = true) ∧ va_Nc "java/lang/IllegalStateException" "java/lang/IllegalArgumentException" U
theorem xc_lays {s U : State} {C n d : String} (hal : s.vm.Alike U.vm) (hh : ∀ q : Nat, q < s.heap.size → U.heap[q]? = s.heap[q]?) (h : (Cond.laysStatic C n d).before #[] s = true) : (Cond.laysStatic C n d).before #[] U = true := by
  obtain ⟨c, k, i, f, a, cell, hc, hi, hst, ha, hcell, hs, hcls, hlt, hty⟩ := Cond.laysStatic_spec h
  obtain ⟨k', hi', he⟩ := State.fieldFound?_setVm hal hi
  have hi2 : U.fieldFound? C n d = some (c, k', i, f) := hi'
  show (Cond.laysStatic C n d).holds #[] U none U [] = true
  exact Cond.laysStatic_of (by rw [hal.findClass]; exact hc) hi2 hst (by rw [he]; exact ha) (by rw [hh a (Array.getElem?_eq_some_iff.mp hcell).1]; exact hcell) hs hcls hlt (by rw [he]; exact hty)
theorem xc_isRef {s U : State} {C n d : String} (hal : s.vm.Alike U.vm) (hh : ∀ q : Nat, q < s.heap.size → U.heap[q]? = s.heap[q]?) (hl : (Cond.laysStatic C n d).before #[] s = true) (h : (Cond.isRef (.static C n d)).before #[] s = true) : (Cond.isRef (.static C n d)).before #[] U = true := by
  obtain ⟨c, k, i, f, a, cell, hc, hi, hst, ha, hcell, hs, hcls, hlt, hty⟩ := Cond.laysStatic_spec hl
  obtain ⟨k', hi', he⟩ := State.fieldFound?_setVm hal hi
  have hi2 : U.fieldFound? C n d = some (c, k', i, f) := hi'
  have hcU : U.heap[a]? = some cell := by rw [hh a (Array.getElem?_eq_some_iff.mp hcell).1]; exact hcell
  have haU : k'.statics = some a := by rw [he]; exact ha
  have e1 : (Term.static C n d).eval #[] s none [] s = cell.slots[f.slot]? := by simp [Term.eval, State.fieldNamed?, hi, hst, ha, hcell, hs]
  have e2 : (Term.static C n d).eval #[] U none [] U = cell.slots[f.slot]? := by simp [Term.eval, State.fieldNamed?, hi2, hst, haU, hcU, hs]
  simp only [Cond.before, Cond.holds, Cond.value] at h ⊢
  rw [e1] at h
  rw [e2]
  exact h
theorem xc_face {s U : State} (hal : s.vm.Alike U.vm) {w : Cond} (h1 : w.faceAtom = true) (h2 : w.onTables = true) (h : w.before #[] s = true) : w.before #[] U = true := by
  have a1 : w.before #[] (s.setVm U.vm) = true := Cond.faceAtom_setVm hal w h1 h
  have a2 : w.before #[] (U.setVm U.vm) = w.before #[] (s.setVm U.vm) := Cond.onTables_vm U.vm w h2
  rw [State.setVm_self] at a2
  rw [a2]
  exact a1
theorem xc_moved {own : String} {ks : List (Nat × String)} {s U : State} (h : xc_ok own ks s) (hW : s.WarmedH U.vm) (hh : ∀ q : Nat, q < s.heap.size → U.heap[q]? = s.heap[q]?) : xc_ok own ks U := by
  have hal : s.vm.Alike U.vm := hW.alike
  obtain ⟨h1, h2, h3, h4⟩ := h
  have a1 := h1 _ (List.mem_of_getElem? (l := xc_w) (i := 0) rfl)
  have a2 := h1 _ (List.mem_of_getElem? (l := xc_w) (i := 1) rfl)
  have a3 := h1 _ (List.mem_of_getElem? (l := xc_w) (i := 2) rfl)
  have a4 := h1 _ (List.mem_of_getElem? (l := xc_w) (i := 3) rfl)
  refine ⟨fun w hw => ?_, fun q hq => ?_, fun w hw => ?_, h4.moved hal⟩
  · simp only [xc_w, List.mem_cons, List.not_mem_nil, or_false] at hw
    rcases hw with rfl | rfl | rfl | rfl
    · exact xc_lays hal hh a1
    · exact xc_lays hal hh a2
    · exact xc_isRef hal hh a1 a3
    · exact xc_isRef hal hh a2 a4
  · obtain ⟨sa, h9⟩ := h2 q hq
    exact ⟨sa, vk_R.warm hW h9⟩
  · have h9 := h3 w hw
    simp only [xc_f, List.mem_cons, List.not_mem_nil, or_false] at hw
    rcases hw with rfl | rfl | rfl | rfl | rfl <;> exact xc_face hal rfl rfl h9
/-- all the words of a throw, out of those of the tables and those that are carried -/
theorem xc_atoms {own : String} {ks : List (Nat × String)} {s : State} {args : Array Value} {ic : Nat} {X : String} {names : List String} {Ts : List Cond} (h : xc_ok own ks s) (hts : ∀ w ∈ Ts, w.before args s = true)
    (hin : ∀ w ∈ Bundle.ownAtoms own ic X names, w ∈ xc_w ∨ w ∈ xc_f ∨ w ∈ Ts) : ∀ w ∈ Bundle.ownAtoms own ic X names, w.before args s = true := by
  intro w hw
  rcases hin w hw with h1 | h1 | h1
  · have h2 := h.1 w h1
    simp only [xc_w, List.mem_cons, List.not_mem_nil, or_false] at h1
    rcases h1 with rfl | rfl | rfl | rfl <;> exact h2
  · have h2 := h.2.2.1 w h1
    simp only [xc_f, List.mem_cons, List.not_mem_nil, or_false] at h1
    rcases h1 with rfl | rfl | rfl | rfl | rfl <;> exact h2
  · exact hts w h1
end XC
/-! Methods that throw (launches without stack traces). A method that may throw has two contracts here: one for the arguments at which it returns (Met), one for those at which it throws (xt_Met): a throw comes ahead of every write, so behind it all that was there is as it was, and the exception's cell is new. -/
section XTA
/-- an invocation made in st has thrown an E: nothing old is changed -/
def xt_Q (E : String) (mc ms : Nat) : Array Value → State → Outcome → State → Prop := fun _ st o t =>
  ∃ (q : Addr) (ce : Cell), o = .threw q ∧ t.heap[q]? = some ce ∧ ce.vm = .none ∧ st.vm.findClass E = some ce.cls ∧ st.WarmedH t.vm ∧ st.sameButNew ({ t with vm := st.vm } : State) [] mc ms
def xt_Met (l : Launch) (y : MethodName) (ws : List Cond) (rm : Room) (Pc : Array Value → State → Prop) (E : String) (mc ms : Nat) : Prop :=
  MetFree l y (headSpec ws rm) Pc (fun _ _ _ _ _ => True) (xt_Q E mc ms)
def xt_Z (below : List Frame) (E : String) (a : Array Value) (s : State) (mc ms : Nat) : State → Prop := fun t =>
  ∃ o, t.status = .running ∧ Ended t below o ∧ xt_Q E mc ms a s o t
theorem xt_ofW {l : Launch} {y : MethodName} {ws ws' : List Cond} {rm : Room} {Pc : Array Value → State → Prop} {E : String} {mc ms : Nat} {cc : ByteArray} {maxL : Nat} {ret : Option FieldType}
    (hy : plainName y.cls = true) (hw : ws = Cond.code y cc maxL ret :: ws')
    (body : ∀ p e s m args below meth c s₁, BodyLoose p l y (headSpec ws rm) cc maxL ret e s m args below meth c s₁ → c.maxLocals = maxL → Pc args s →
      W p l e (headSpec ws rm).room s m args below meth c s.heap [] 0 0 (xt_Z below E args s mc ms) (entryFrame m args maxL)) : xt_Met l y ws rm Pc E mc ms := by
  refine MetFree.of_bodyS (code := cc) (maxLocals := maxL) (ret := ret) hy ?_ ?_
  · intro args s m h hn
    obtain ⟨meth, c, h1, h2, h3, h4, h5, h6, -, -⟩ := Cond.code_spec hn (atoms_spec (ws := ws) h _ (by rw [hw]; exact List.mem_cons_self))
    exact ⟨meth, c, h1, h2, h3, h4, h5, h6⟩
  · intro p e s m args below meth c s₁ B hml hP _
    have hh0 : s₁.heap = s.heap := by rw [B.state]; rfl
    obtain ⟨t, a1, o, b1, b2, b3⟩ := body p e s m args below meth c s₁ B hml hP s₁ hh0 (Stand.of_body B)
    exact ⟨t, o, a1, b1, b2, b3⟩
end XTA
section XTB
variable {p : Program} {l : Launch} {e : Env} {R : Room} {s : State} {m : MethodId} {args : Array Value} {below : List Frame} {meth : Method} {c : Code} {H : Heap} {locs : List Loc} {cells slots : Nat} {Q : State → Prop}
/-- throw new cls("text"), out of the method -/
theorem xt_throw {cc : ByteArray} {pc : Nat} {ls : Array Slot} {rest : List Value} (hexec : p.tables.exec = Jvm.exec) (hb : c.code = cc) (hl : l.stackTraces = false) {own cls text : String} {names : List String} {ik is ic sa mc ms : Nat}
    (hown : s.vm.findClass own = some m.cls) (hcls : Bundle.fit cls = true) (hnames : ∀ n ∈ names, Bundle.fit n = true)
    (hk : (Cond.classLink own ik cls).before args s = true) (hini : (Cond.initialized cls).before args s = true) (hstr : vk_R own is text sa s)
    (hat : ∀ w ∈ Bundle.ownAtoms own ic cls names, w.before args s = true) (hsize : ls.size = c.maxLocals) (hH : s.heap.size ≤ H.size)
    (d0 : decode cc pc = .ok (.new ik, 3)) (d3 : decode cc (pc + 3) = .ok (.dup, 1)) (d4 : decode cc (pc + 4) = .ok (.ldc is, 2)) (d6 : decode cc (pc + 6) = .ok (.invokespecial ic, 3)) (d9 : decode cc (pc + 9) = .ok (.athrow, 1))
    (hout : ∀ x ∈ c.exceptionTable.toList, covers x (pc + 9) = false)
    (hRf : names.length + 3 < R.frames) (hRl : (rest.map fun v => v.category).sum + (13 * (names.length + 1) + 43) ≤ R.locals) (hRc : cells + 1 ≤ R.cells) (hRs : slots + 6 ≤ R.slots) (hlocks : meth.locks = false)
    (hc : cells + 1 ≤ mc) (hs : slots + 6 ≤ ms) :
    W p l e R s m args below meth c H [] cells slots (xt_Z below cls args s mc ms) (F0 m pc ls rest) := by
  have hins : (Cond.instantiable cls 6).before args s = true := hat _ (by simp [Bundle.ownAtoms])
  obtain ⟨cX, kX, hfound, hkX, -⟩ := Cond.instantiable_spec (show (Cond.instantiable cls 6).holds args s none s [] = true from hins)
  refine W.newcK hexec hb hown hk hins hini (g := F0 m pc ls rest) rfl d0 hRc hRs hfound (h := H.size) rfl (fun H1 kC hkC e1 z1 o1 => ?_)
  refine W.eq (g2 := F0 m (pc + 3) ls (.ref H.size :: rest)) rfl ?_
  refine lv_dup hexec hb d3 rfl ?_
  refine va_ldcS hexec hb hown hstr d4 ?_
  intro T hT X
  have htr : e.platform.stackTraces = false := (show e.platform.stackTraces = l.stackTraces by rw [X.admits.platform]).trans hl
  cases Option.some.inj (hkX.symm.trans hkC)
  obtain ⟨U, hst, hrun, hend, hW, hsame, ce, hce, hO⟩ := X.ctorThrowS hexec htr hown hcls hnames hat (fun x hx => by cases hx) hfound hkX (a := H.size) (by rw [hT]; exact e1) hH (msg := .ref sa) rfl
    (g := F0 m (pc + 4 + 2) ls (.ref sa :: .ref H.size :: .ref H.size :: rest)) rfl hsize rfl rfl (rest := rest) rfl (by rw [hb]; exact d6) (by rw [hb]; exact d9) hout hRf
    (by show 2 * 0 + ((1 : Nat) + (rest.map fun v => v.category).sum) + _ ≤ _; omega) hlocks
  exact ⟨U, hst, .threw H.size, hrun, hend, H.size, ce, rfl, hce, hO.vm, hO.cls, hW, hsame.mono hc hs⟩
/-- a call that throws: the machine stands in the caller's frame again, the exception over it -/
def xt_Run (p : Program) (l : Launch) (e : Env) (R : Room) (s : State) (m : MethodId) (args : Array Value) (below : List Frame) (meth : Method) (c : Code) (H : Heap) (locs : List Loc) (cells slots mc ms : Nat) (E : String) (g : JFrame) (rest : List Value) : Prop :=
  ∀ T : State, T.heap = H → Stand p l e R s m args below meth c T locs cells slots → ∃ (q : Addr) (ce : Cell) (T' : State), Stand p l e R s m args below meth c T' locs (cells + mc) (slots + ms) ∧ T'.heap[q]? = some ce ∧ ce.vm = .none ∧ s.vm.findClass E = some ce.cls ∧ H.size ≤ T'.heap.size ∧ (∀ z : Nat, z < H.size → T'.heap[z]? = H[z]?) ∧
    ∀ target, Steps p.tables e below ((T'.setTop { g with stack := rest }).pushFrame (.throwing q)) target → Steps p.tables e below (T.setTop g) target
theorem xt_back {y : MethodName} {ws : List Cond} {rm : Room} {Pc : Array Value → State → Prop} {E : String} {mc ms : Nat} {bytes : ByteArray} {maxL len : Nat} {ret : Option FieldType} {U : State} {g : JFrame} {ig : Instr} {mk : MethodId} {a : Array Value}
    (X : Stand p l e R s m args below meth c U locs cells slots) (hM : xt_Met l y ws rm Pc E mc ms) (hblind : FrameBlind Pc) (hrc : rm.cells = mc) (hrs : rm.slots = ms) (hframes : rm.frames + 1 ≤ R.frames) (hlocals : 8 + (maxL + 11) + rm.locals ≤ R.locals)
    (hws : ∀ w ∈ ws, ∀ (a' : Array Value) (U : State), s.WarmedH U.vm → w.before a' U = true) (hcode : Cond.code y bytes maxL ret ∈ ws) (hinit : ∀ (a' : Array Value) (U : State), s.WarmedH U.vm → (Cond.initialized y.cls).before a' U = true)
    (hg : g.method = m) (hsize : g.locals.size = c.maxLocals) (hdg : decode c.code g.pc = .ok (ig, len)) (hW8 : 2 * g.monitorRoom + (g.stack.map fun v => v.category).sum ≤ 8) (hn : U.methodNamed? y = some mk)
    (hcells : cells + mc ≤ R.cells) (hslots : slots + ms ≤ R.slots) (hPc : Pc a U) :
    ∃ (q : Addr) (ce : Cell) (T' : State), Stand p l e R s m args below meth c T' locs (cells + mc) (slots + ms) ∧ T'.heap[q]? = some ce ∧ ce.vm = .none ∧ U.vm.findClass E = some ce.cls ∧ U.heap.size ≤ T'.heap.size ∧ (∀ z : Nat, z < U.heap.size → T'.heap[z]? = U.heap[z]?) ∧
      Steps p.tables e below (doInvoke e (U.setTop g) [] mk a).1 ((T'.setTop g).pushFrame (.throwing q)) := by
  have h1 : (headSpec ws rm).pre.before a U = true := atoms_intro fun w hw => hws w hw _ _ X.warmed
  have h2 : (Cond.code y bytes maxL ret).before a U = true := hws _ hcode _ _ X.warmed
  have h3 : (Cond.initialized y.cls).before a U = true := hinit _ _ X.warmed
  obtain ⟨methY, cY, hmY, hcY, -, hlY, -, -, -, -⟩ := Cond.code_spec hn h2
  obtain ⟨kY, hkY, -⟩ := className_of_methodNamed hn
  have hinitY : kY.init = .initialized := Cond.initialized_spec (findClass_of_methodNamed hn) hkY h3
  have h : At U g.method c below := by rw [hg]; exact X.here
  have happ : (headSpec ws rm).appliesLoose y e.platform (U.calling g mk a) = true :=
    Spec.appliesLoose_calling (g := g) h hdg hn hkY hinitY
      (X.room_calling (g := g) (R' := (headSpec ws rm).room) hsize hmY hcY hframes (by rw [hlY]; show _ + rm.locals ≤ _; omega) (by show cells + rm.cells ≤ _; rw [hrc]; exact hcells) (by show slots + rm.slots ≤ _; rw [hrs]; exact hslots)) h1
  obtain ⟨mid, hmid⟩ := h.above
  have hfr : (U.setTop g).frames = (.java g :: mid) ++ below := by rw [State.frames_setTop' g h.top, hmid]; rfl
  obtain ⟨o, s₂, hsteps, -, hend, hq⟩ := Steps.callFree hM p X.admits X.cas X.clock (acts := []) hfr happ (hblind _ _ _ _ hPc) trivial
  rw [State.frames_setTop' g h.top, X.tail] at hend
  obtain ⟨q, ce, rfl, hce, hv, hcl, hW, hsame⟩ := hq
  obtain ⟨T', X', hWT, hsT, ht⟩ := X.outOfThrown hg hend hW hsame
  have hh : T'.heap = s₂.heap := by rw [ht]; simp [State.pushFrame, State.setFrames, State.setTop, State.modifyTopJava]
  have hX' : Stand p l e R s m args below meth c T' locs (cells + mc) (slots + ms) := by simpa using X'
  refine ⟨q, ce, T', hX', by rw [hh]; exact hce, hv, hcl, hsT.2.1, fun z hz => ?_, by rw [← ht]; exact hsteps⟩
  obtain ⟨cz, hcz⟩ : ∃ cz, U.heap[z]? = some cz := ⟨_, Array.getElem?_eq_getElem hz⟩
  rw [hcz]
  exact hsT.old_cell hcz
variable {y : MethodName} {bytes cc : ByteArray} {maxL nL mc ms n index pc : Nat} {ret : Option FieldType} {ws Ts : List Cond} {rm : Room} {Pc : Array Value → State → Prop} {own C E : String} {b : Addr} {As rest st0 : List Value} {ls : Array Slot} {g : JFrame}
theorem xt_runV (S : CallFix p m c cc nL s args Ts own) (hM : xt_Met l y ws rm Pc E mc ms) (cw : CallW R s args own C index y bytes maxL ret ws rm mc ms n) (hp : PreV s H C b Pc As)
    (hg : g.method = m) (hn : As.length = n) (hsize : g.locals.size = nL) (hstack : g.stack = As.reverse ++ .ref b :: rest) (hW : 2 * g.monitorRoom + (rest.map fun v => v.category).sum ≤ 8) (hdg : decode cc g.pc = .ok (.invokevirtual index, 3)) (hf : cells + mc ≤ R.cells ∧ slots + ms ≤ R.slots) :
    xt_Run p l e R s m args below meth c H locs cells slots mc ms E g rest := by
  obtain ⟨⟨hrc, hrs, hfr, hlo, hws, hcw, hcode, hini, hy, hlen, hlk⟩, hinst, hsel⟩ := cw
  obtain ⟨hx, hb, hml, ho, -⟩ := S
  obtain ⟨hbl, ⟨cellB, hcB, hoB, hclB⟩, hPc⟩ := hp
  intro T hT X
  obtain ⟨mk, methM, hnamed, hmethM, hstM, habM⟩ := Cond.instanceMethod_spec hinst
  obtain ⟨methM', cM, hmethM', -, -, -, -, -, -, hsigM⟩ := Cond.code_spec hnamed hcode
  cases hmethM.symm.trans hmethM'
  obtain ⟨c2, r2, m2, q1, q2, q3, q4, kP, hkP, hkPi⟩ := Cond.selects_spec hsel
  cases hclB.symm.trans q1
  cases (State.methodFound?_of_named hnamed hy).symm.trans q2
  cases hnamed.symm.trans q3
  have hselP : selectMethod e.platform s.vm cellB.cls mk = .method mk := by rw [Launch.admits_selectMethod X.admits]; exact q4
  obtain ⟨vm₁, X₁, hstep₁⟩ := X.invokevirtual hx ho hlk hnamed hmethM hstM hkP hkPi hy (a := b) (cell := cellB) (by rw [hT]; exact hcB)
    (fun z h => by rw [h] at hoB; cases hoB) hselP hmethM habM hkP hkPi (g := g) hg (argsL := As) (rest := rest) (hn.trans (hlen _ hsigM)) hstack (by rw [hb]; exact hdg)
  obtain ⟨q, ce, T', X', a1, a2, a3, a4, a5, st⟩ := xt_back (g := { g with stack := rest }) (ig := .invokevirtual index) (len := 3) (bytes := bytes) (maxL := maxL) (ret := ret) X₁ hM hbl hrc hrs hfr hlo hws hcw
    (fun a' U hW => word_at hW (Or.inl (by first | rfl | simp [Cond.onTables, Cond.keeps, Cond.steady])) hini) hg (hsize.trans hml.symm) (by rw [hb]; exact hdg) hW (X₁.named hnamed) hf.1 hf.2 (hPc (T.setVm vm₁) hT X₁.warmed)
  have ev : s.vm.findClass E = some ce.cls := by
    have h9 := X₁.warmed.alike.findClass E
    rw [← h9]; exact a3
  have hT1 : (T.setVm vm₁).heap = H := hT
  rw [hT1] at a4 a5
  exact ⟨q, ce, T', X', a1, a2, ev, a4, a5, fun target h => hstep₁ _ fun acts => by rw [doInvoke_state]; exact st.trans h⟩
theorem xt_runS (S : CallFix p m c cc nL s args Ts own) (hM : xt_Met l y ws rm Pc E mc ms) (cw : CallB R s args own index y bytes maxL ret ws rm mc ms n ∧ (Cond.static y).before args s = true) (hp : PreS s H Pc As)
    (hg : g.method = m) (hn : As.length = n) (hsize : g.locals.size = nL) (hstack : g.stack = As.reverse ++ rest) (hW : 2 * g.monitorRoom + (rest.map fun v => v.category).sum ≤ 8) (hdg : decode cc g.pc = .ok (.invokestatic index, 3)) (hf : cells + mc ≤ R.cells ∧ slots + ms ≤ R.slots) :
    xt_Run p l e R s m args below meth c H locs cells slots mc ms E g rest := by
  obtain ⟨⟨hrc, hrs, hfr, hlo, hws, hcw, hcode, hini, hy, hlen, hlk⟩, hstt⟩ := cw
  obtain ⟨hx, hb, hml, ho, -⟩ := S
  obtain ⟨hbl, hPc⟩ := hp
  intro T hT X
  obtain ⟨mk, hnamed⟩ := Cond.code_named hcode
  obtain ⟨methM, cM, hmethM, -, -, -, -, -, -, hsigM⟩ := Cond.code_spec hnamed hcode
  have hstatic : methM.isStatic = true := Cond.static_spec hnamed hmethM hstt
  obtain ⟨kP, hkP, -⟩ := className_of_methodNamed hnamed
  have hinitP : kP.init = .initialized := Cond.initialized_spec (findClass_of_methodNamed hnamed) hkP hini
  obtain ⟨vm₁, X₁, hstep₁⟩ := X.invokestatic hx ho hlk hnamed hmethM hstatic hkP hinitP hy (g := g) hg (argsL := As) (rest := rest) (hn.trans (hlen _ hsigM)) hstack (by rw [hb]; exact hdg)
  obtain ⟨q, ce, T', X', a1, a2, a3, a4, a5, st⟩ := xt_back (g := { g with stack := rest }) (ig := .invokestatic index) (len := 3) (bytes := bytes) (maxL := maxL) (ret := ret) X₁ hM hbl hrc hrs hfr hlo hws hcw
    (fun a' U hW => word_at hW (Or.inl (by first | rfl | simp [Cond.onTables, Cond.keeps, Cond.steady])) hini) hg (hsize.trans hml.symm) (by rw [hb]; exact hdg) hW (X₁.named hnamed) hf.1 hf.2 (hPc (T.setVm vm₁) hT X₁.warmed)
  have ev : s.vm.findClass E = some ce.cls := by
    have h9 := X₁.warmed.alike.findClass E
    rw [← h9]; exact a3
  have hT1 : (T.setVm vm₁).heap = H := hT
  rw [hT1] at a4 a5
  exact ⟨q, ce, T', X', a1, a2, ev, a4, a5, fun target h => hstep₁ _ fun acts => by rw [doInvoke_state]; exact st.trans h⟩
/-- the caller throws it on -/
theorem xt_pass {mc0 ms0 : Nat} (hr : xt_Run p l e R s m args below meth c H [] cells slots mc ms E (F0 m pc ls st0) rest) (hout : ∀ x ∈ c.exceptionTable.toList, covers x pc = false) (hlocks : meth.locks = false)
    (hc : cells + mc ≤ mc0) (hs : slots + ms ≤ ms0) : W p l e R s m args below meth c H [] cells slots (xt_Z below E args s mc0 ms0) (F0 m pc ls st0) := by
  intro T hT X
  obtain ⟨q, ce, T', X', a1, a2, a3, a4, a5, st⟩ := hr T hT X
  obtain ⟨w1, w2, w3, w4, w5⟩ := X'.leaveThrown q (g := F0 m pc ls rest) rfl rfl rfl hout hlocks
  exact ⟨_, st _ w1, .threw q, w2, w3, q, ce, rfl, a1, a2, a3, w4, w5.mono hc hs⟩
end XTB
/-! into a handler whose class may not be resolved yet -/
section XTC
variable {p : Program} {l : Launch} {e : Env} {R : Room} {s : State} {m : MethodId} {args : Array Value} {below : List Frame} {meth : Method} {c : Code} {H : Heap} {locs : List Loc} {cells slots : Nat} {Q : State → Prop}
/-- an entry of the table at this pc: passed by, or taken -/
def xt_By (pl : Platform) (s : State) (d : ClassId) (pc : Nat) (k : ClassId) (y : ExceptionTableEntry) : Prop :=
  covers y pc = false ∨ (y.catchType ≠ 0 ∧ ∃ cy, s.vm.ClassLinks pl d y.catchType cy ∧ s.vm.assignable k cy = false)
theorem xt_search {S0 : State} {f : JFrame} {a : Addr} {cell : Cell} {x : ExceptionTableEntry} {cx : ClassId} (suf : List ExceptionTableEntry) (hobj : ∀ k, cell.vm ≠ .statics k) (hk0 : ∃ k, s.vm.classes[cell.cls]? = some k) (hx : covers x f.pc = true) (h0 : x.catchType ≠ 0)
    (hl : s.vm.ClassLinks e.platform f.method.cls x.catchType cx) (hfit : s.vm.assignable cell.cls cx = true) :
    ∀ (pre : List ExceptionTableEntry) (S : State), s.WarmedH S.vm → S.heap[a]? = some cell → (∀ y ∈ pre, xt_By e.platform s f.method.cls f.pc cell.cls y) →
      ∃ vm', s.WarmedH vm' ∧ ∀ (Q : Handler → Pre) (E : CtlPost) (d : Bool) (acts : List Action), wp (findHandler.go f a (pre ++ x :: suf)) Q E e d acts S ↔ Q (.found x.handlerPc) d acts (S.setVm vm') := by
  obtain ⟨k0, hk0⟩ := hk0
  intro pre
  induction pre with
  | nil =>
    intro S hW hcell _
    obtain ⟨k1, hk1, -⟩ := hW.alike.2.2 _ _ hk0
    obtain ⟨dk, _, _, kt, hd, _, _, _, _, hkt, _, hopen⟩ := hl.here
    obtain ⟨k2, hk2, -⟩ := hW.alike.2.2 _ _ hkt
    have hl1 := hW.classLinks hl
    refine ⟨S.vm.noted f.method.cls x.catchType (.cls cx), hW.noted hd hopen (State.rightAt_cls hl), fun Q E d acts => ?_⟩
    have hx1 := hx
    simp only [covers] at hx1
    obtain ⟨ha, ht⟩ := (resolveClass_links e.toSetting hl1).op (op := VmOp.resolveClass f.method.cls x.catchType) rfl
    have hal : S.vm.Alike (S.vm.noted f.method.cls x.catchType (.cls cx)) := (Vm.Alike.refl S.vm).noted _ _ _
    obtain ⟨k1', hk1', -⟩ := hal.2.2 _ _ hk1
    obtain ⟨k2', hk2', -⟩ := hal.2.2 _ _ hk2
    have hfit' : (S.vm.noted f.method.cls x.catchType (.cls cx)).assignable cell.cls cx = true := by rw [hal.assignable, hW.alike.assignable]; exact hfit
    simp [findHandler.go, hx1, h0, ha, ht, hcell, hobj, hk1', hk2', hfit', VmOp.dirties, VmOp.acts]
  | cons y ys ih =>
    intro S hW hcell hpass
    have hrest : ∀ z ∈ ys, xt_By e.platform s f.method.cls f.pc cell.cls z := fun z hz => hpass z (List.mem_cons_of_mem _ hz)
    rcases hpass y (List.mem_cons_self ..) with hno | ⟨hy0, cy, hly, hny⟩
    · obtain ⟨vm', hW', hq⟩ := ih S hW hcell hrest
      exact ⟨vm', hW', fun Q E d acts => by rw [List.cons_append, W.findHandler_go_skip hno]; exact hq Q E d acts⟩
    · by_cases hcov : covers y f.pc = true
      · obtain ⟨k1, hk1, -⟩ := hW.alike.2.2 _ _ hk0
        obtain ⟨dk, _, _, kt, hd, _, _, _, _, hkt, _, hopen⟩ := hly.here
        obtain ⟨k2, hk2, -⟩ := hW.alike.2.2 _ _ hkt
        obtain ⟨vm', hW', hq⟩ := ih (S.setVm (S.vm.noted f.method.cls y.catchType (.cls cy))) (hW.noted hd hopen (State.rightAt_cls hly)) hcell hrest
        refine ⟨vm', hW', fun Q E d acts => ?_⟩
        have hx1 := hcov
        simp only [covers] at hx1
        obtain ⟨ha, ht⟩ := (resolveClass_links e.toSetting (hW.classLinks hly)).op (op := VmOp.resolveClass f.method.cls y.catchType) rfl
        have hal : S.vm.Alike (S.vm.noted f.method.cls y.catchType (.cls cy)) := (Vm.Alike.refl S.vm).noted _ _ _
        obtain ⟨k1', hk1', -⟩ := hal.2.2 _ _ hk1
        obtain ⟨k2', hk2', -⟩ := hal.2.2 _ _ hk2
        have hno' : (S.vm.noted f.method.cls y.catchType (.cls cy)).assignable cell.cls cy = false := by rw [hal.assignable, hW.alike.assignable]; exact hny
        rw [List.cons_append]
        refine Iff.trans ?_ (hq Q E d acts)
        simp [findHandler.go, hx1, hy0, ha, ht, hcell, hobj, hk1', hk2', hno', VmOp.dirties, VmOp.acts]
      · obtain ⟨vm', hW', hq⟩ := ih S hW hcell hrest
        exact ⟨vm', hW', fun Q E d acts => by rw [List.cons_append, W.findHandler_go_skip (by simpa using hcov)]; exact hq Q E d acts⟩
theorem xt_caught {g : JFrame} {a : Addr} {T : State} (X : Stand p l e R s m args below meth c T locs cells slots) (hg : g.method = m) {pc : Nat} {vm' : Vm}
    (hfind : ∀ (Q : Handler → Pre) (E : CtlPost) (d : Bool) (acts : List Action), wp (findHandler g a) Q E e d acts ((T.setTop g).pushFrame (.throwing a)) ↔ Q (.found pc) d acts (((T.setTop g).pushFrame (.throwing a)).setVm vm')) {target : State}
    (hrest : Steps p.tables e below ((T.setVm vm').setTop { g with pc := pc, stack := [.ref a] }) target) : Steps p.tables e below ((T.setTop g).pushFrame (.throwing a)) target := by
  subst hg
  obtain ⟨hgo, hw⟩ := X.here.throwing a
  refine Steps.head hgo hw ?_
  have hstep : (stepThrowing e ((T.setTop g).pushFrame (.throwing a)) a (.java g :: T.frames.tail)).Is ((((T.setTop g).pushFrame (.throwing a)).setVm vm').setFrames (.java { g with pc := pc, stack := [.ref a] } :: T.frames.tail)) [] := by
    simp only [stepThrowing, searchFrame, vmDo]
    generalize hr : Sem.go _ e false [] _ = res
    obtain ⟨as, rfl, ha⟩ := Sem.eq_ok_of hr (a := Handler.found pc) (s' := ((T.setTop g).pushFrame (.throwing a)).setVm vm') (acts' := []) (by simp [hfind _ _ _ _])
    exact ⟨rfl, ha⟩
  rw [stepThread_throwing (frames_entered X.here.top _), hstep.1]
  obtain ⟨g₀, hg0⟩ := Option.isSome_iff_exists.mp X.here.top
  obtain ⟨r, hr⟩ := State.topJava?_eq_some.mp hg0
  have hr' : (T.setVm vm').frames = .java g₀ :: r := hr
  rw [State.setTop_of_frames _ hr'] at hrest
  have e9 : (((T.setTop g).pushFrame (.throwing a)).setVm vm').setFrames (.java { g with pc := pc, stack := [.ref a] } :: T.frames.tail) = (T.setVm vm').setFrames (.java { g with pc := pc, stack := [.ref a] } :: r) := by
    rw [hr, List.tail_cons, State.pushFrame, State.setTop_of_frames _ hr]
    show (((T.setVm vm').setFrames _).setFrames _).setFrames _ = _
    rw [State.setFrames_setFrames, State.setFrames_setFrames]
  rw [e9]
  exact hrest
variable {E name own : String} {mc ms pc : Nat} {ls : Array Slot} {st0 rest : List Value}
theorem xt_catch (hr : xt_Run p l e R s m args below meth c H locs cells slots mc ms E (F0 m pc ls st0) rest) (hown : s.vm.findClass own = some m.cls) (pre : List ExceptionTableEntry) (x : ExceptionTableEntry) (suf : List ExceptionTableEntry) (hsplit : c.exceptionTable.toList = pre ++ x :: suf)
    (hpass : ∀ z ∈ pre, covers z pc = false ∨ (z.catchType ≠ 0 ∧ ∃ nm : String, (Cond.classLink own z.catchType nm).before args s = true ∧ va_Nc E nm s)) (hx : covers x pc = true) (h0 : x.catchType ≠ 0)
    (hlink : (Cond.classLink own x.catchType name).before args s = true) (hcast : (Cond.castable E name).before args s = true)
    (kk : ∀ (q : Addr) (H1 : Heap), H.size ≤ H1.size → (∀ z : Nat, z < H.size → H1[z]? = H[z]?) → W p l e R s m args below meth c H1 locs (cells + mc) (slots + ms) Q (F0 m x.handlerPc ls [.ref q])) : W p l e R s m args below meth c H locs cells slots Q (F0 m pc ls st0) := by
  intro T hT X
  obtain ⟨q, ce, T', X', a1, a2, a3, a4, a5, st⟩ := hr T hT X
  have hpl : e.platform.magicAccessors = ({} : Platform).magicAccessors := by rw [X.admits.platform]
  obtain ⟨c3, c4, hc3, hc4, hasg⟩ := Cond.castable_spec hcast
  cases Option.some.inj (hc3.symm.trans a3)
  obtain ⟨c5, hc5, hcl5⟩ := Cond.classLink_spec hown hlink e.platform hpl
  cases Option.some.inj (hc4.symm.trans hc5)
  obtain ⟨vm', hW', hq⟩ := xt_search (S0 := T') (e := e) (f := F0 m pc ls rest) (a := q) suf (VmData.ne_statics_of (by rw [a2]; rfl)) (by obtain ⟨k9, h9, -⟩ := Vm.findClass_spec a3; exact ⟨k9, h9⟩) hx h0 hcl5 hasg pre ((T'.setTop (F0 m pc ls rest)).pushFrame (.throwing q)) X'.warmed a1
    (fun z hz => by
      rcases hpass z hz with h | ⟨hz0, nm, hl1, hn1⟩
      · exact Or.inl h
      · obtain ⟨c6, hc6, hcl6⟩ := Cond.classLink_spec hown hl1 e.platform hpl
        obtain ⟨a8, b8, h1, h2, h3⟩ := hn1
        cases Option.some.inj (h1.symm.trans a3)
        cases Option.some.inj (h2.symm.trans hc6)
        exact Or.inr ⟨hz0, _, hcl6, h3⟩)
  obtain ⟨t, b1, b2⟩ := kk q T'.heap a4 a5 (T'.setVm vm') rfl (X'.noted hW')
  refine ⟨t, st t (xt_caught X' rfl (pc := x.handlerPc) (vm' := vm') (fun Q E d acts => ?_) b1), b2⟩
  exact (W.findHandler_eq (s := (T'.setTop (F0 m pc ls rest)).pushFrame (.throwing q)) (f := F0 m pc ls rest) (meth := meth) (code := c) X'.method' X'.code).trans (by rw [hsplit]; exact hq Q E d acts)
end XTC
/-! ONE list of words for every method: all good words of the tables; a method's own list is its code before it -/
section XR
def wAll : List Cond := lw_tbl.filter goodWord
theorem wAll_tbl {w : Cond} (h : w ∈ wAll) : w ∈ lw_tbl := (List.mem_filter.mp h).1
theorem wAll_good {w : Cond} (h : w ∈ wAll) : (w.onTables && w.keeps) = true ∨ ∃ ty, w = .arrayClass ty := good_of_word (List.mem_filter.mp h).2
theorem wAll_in {w : Cond} {k : Nat} (h : tables_1[k]? = some w) (hg : goodWord w = true) : w ∈ wAll := List.mem_filter.mpr ⟨List.mem_append_right _ (List.mem_of_getElem? h), hg⟩
theorem wAll_sel {w : Cond} {k : Nat} (h : (k2_sels lw_privs)[k]? = some w) (hg : goodWord w = true) : w ∈ wAll := List.mem_filter.mpr ⟨List.mem_append_left _ (List.mem_of_getElem? h), hg⟩
theorem wAll_v {own C : String} {idx : Nat} {y : MethodName} {b : ByteArray} {n : Nat} {r : Option FieldType} (h1 : Cond.methodLink own idx y ∈ wAll) (h2 : Cond.instanceMethod y ∈ wAll) (h3 : Cond.selects C y y ∈ wAll) (h4 : Cond.initialized C ∈ wAll) (h5 : Cond.code y b n r ∈ wAll) : GoodIn wAll (wsV own idx C y (.code y b n r :: wAll)) := by
  intro w hw
  have hm : w ∈ wAll := by
    simp only [wsV, List.cons_append, List.nil_append, List.mem_cons] at hw
    rcases hw with rfl | rfl | rfl | rfl | rfl | h
    · exact h1
    · exact h2
    · exact h3
    · exact h4
    · exact h5
    · exact h
  exact ⟨hm, wAll_good hm⟩
theorem wAll_s {own : String} {idx : Nat} {y : MethodName} {b : ByteArray} {n : Nat} {r : Option FieldType} (h1 : Cond.methodLink own idx y ∈ wAll) (h2 : Cond.static y ∈ wAll) (h4 : Cond.initialized own ∈ wAll) (h5 : Cond.code y b n r ∈ wAll) : GoodIn wAll (wsS own idx y (.code y b n r :: wAll)) := by
  intro w hw
  have hm : w ∈ wAll := by
    simp only [wsS, List.cons_append, List.nil_append, List.mem_cons] at hw
    rcases hw with rfl | rfl | rfl | rfl | h
    · exact h1
    · exact h2
    · exact h4
    · exact h5
    · exact h
  exact ⟨hm, wAll_good hm⟩
theorem wAll_c {y : MethodName} {b : ByteArray} {n : Nat} {r : Option FieldType} (h5 : Cond.code y b n r ∈ wAll) : GoodIn wAll (.code y b n r :: wAll) := by
  intro w hw
  have hm : w ∈ wAll := by
    rcases List.mem_cons.mp hw with rfl | h
    · exact h5
    · exact h
  exact ⟨hm, wAll_good hm⟩
theorem u_mem {C : String} {T : u_T} {N : Nat} {w : Cond} (h : w ∈ u_ws C T N) : ∃ k, k < N ∧ w = u_lay C T k := by
  obtain ⟨k, hk, e⟩ := List.mem_map.mp h
  exact ⟨k, List.mem_range.mp hk, e.symm⟩
theorem hts_all {c0 : Cond} {args : Array Value} {s : State} (h : ∀ w ∈ c0 :: wAll, w.before args s = true) : ∀ w ∈ wAll, w.before args s = true := fun w hw => h w (List.mem_cons_of_mem _ hw)
/-- a start: the cells, and what the tables say -/
def ro_P (av : List Value) (D : va_G) (cl : List vw_C) (tys : List (ClassId × FieldType)) (ws : va_W) (B : State → Prop) : Array Value → State → Prop := va_Pc av (fun U => va_P D cl ws U.heap ∧ va_K D cl tys U ∧ B U)
def bl_ok (B : State → Prop) : Prop := ∀ (U : State) (g : JFrame) (mk : MethodId) (a : Array Value), B U → B (U.calling g mk a)
theorem bl_tt : bl_ok (fun _ => True) := fun _ _ _ _ _ => trivial
theorem bl_xc {own : String} {ks : List (Nat × String)} : bl_ok (xc_ok own ks) := fun U g mk a h => xc_moved h (by show U.WarmedH U.vm; exact State.WarmedH.refl U) (fun _ _ => rfl)
theorem ro_blind {av : List Value} {D : va_G} {cl : List vw_C} {tys : List (ClassId × FieldType)} {ws : va_W} {B : State → Prop} (hB : bl_ok B) : FrameBlind (ro_P av D cl tys ws B) := fun a U g mk h => ⟨h.1, h.2.1, va_K.moved (u := U) (U := U.calling g mk a) (Vm.Alike.refl U.vm) h.2.2.1, hB U g mk a h.2.2.2⟩
theorem ro_preV {D : va_G} {cl : List vw_C} {tys : List (ClassId × FieldType)} {ws : va_W} {B : State → Prop} {s : State} {H : Heap} {C : String} {T : u_T} {N b q0 ci : Nat} {fs As : List Value} (hB : bl_ok B) (hK : va_K D cl tys s) (hP : va_P D cl ws H) (hc : cl[ci]? = some (C, T, N)) (he : ws[q0]? = some (b, .inr (ci, fs))) (hb : ∀ U : State, U.heap = H → s.WarmedH U.vm → B U) : PreV s H C b (ro_P (.ref b :: As) D cl tys ws B) As :=
  ⟨ro_blind hB, va_recv hK hP hc he, fun U hU hW => ⟨rfl, by rw [hU]; exact hP, va_K.moved hW.alike hK, hb U hU hW⟩⟩
theorem ro_preS {D : va_G} {cl : List vw_C} {tys : List (ClassId × FieldType)} {ws : va_W} {B : State → Prop} {s : State} {H : Heap} {As : List Value} (hB : bl_ok B) (hK : va_K D cl tys s) (hP : va_P D cl ws H) (hb : ∀ U : State, U.heap = H → s.WarmedH U.vm → B U) : PreS s H (ro_P As D cl tys ws B) As :=
  ⟨ro_blind hB, fun U hU hW => ⟨rfl, by rw [hU]; exact hP, va_K.moved hW.alike hK, hb U hU hW⟩⟩
/-- a start of a method that writes -/
def mu_P (av : List Value) (D : va_G) (cl : List vw_C) (tys : List (ClassId × FieldType)) (ws : va_W) (sz : Nat) : Array Value → State → Prop := va_Pc av (fun U => U.heap.size = sz ∧ va_P D cl ws U.heap ∧ va_K D cl tys U ∧ va_D (fun _ => True) ws)
def mu_B (D : va_G) (cl : List vw_C) (tys : List (ClassId × FieldType)) (A : Nat → Prop) (ws : va_W) : Unit → State → Prop := fun _ t => va_P D cl ws t.heap ∧ va_K D cl tys t ∧ va_D A ws
theorem mu_blind {av : List Value} {D : va_G} {cl : List vw_C} {tys : List (ClassId × FieldType)} {ws : va_W} {sz : Nat} : FrameBlind (mu_P av D cl tys ws sz) := fun a U g mk h => ⟨h.1, h.2.1, h.2.2.1, va_K.moved (u := U) (U := U.calling g mk a) (Vm.Alike.refl U.vm) h.2.2.2.1, h.2.2.2.2⟩
theorem mu_preV {D : va_G} {cl : List vw_C} {tys : List (ClassId × FieldType)} {ws : va_W} {s : State} {H : Heap} {C : String} {T : u_T} {N b q0 ci : Nat} {fs As : List Value} {A : Nat → Prop} (hK : va_K D cl tys s) (hP : va_P D cl ws H) (hD : va_D A ws) (hc : cl[ci]? = some (C, T, N)) (he : ws[q0]? = some (b, .inr (ci, fs))) : PreV s H C b (mu_P (.ref b :: As) D cl tys ws H.size) As :=
  ⟨mu_blind, va_recv hK hP hc he, fun U hU hW => ⟨rfl, by rw [hU], by rw [hU]; exact hP, va_K.moved hW.alike hK, hD.weaken (fun _ _ _ _ => trivial)⟩⟩
end XR
/-! static methods that have handlers: called, and what their table is -/
section XW
variable {p : Program} {l : Launch} {e : Env} {R : Room} {s : State} {m : MethodId} {args : Array Value} {below : List Frame} {meth : Method} {c : Code} {H : Heap} {locs : List Loc} {cells slots : Nat} {Q : State → Prop}
theorem xt_nil {t : Array ExceptionTableEntry} (h : t.isEmpty = true) : t.toList = [] := by
  have h0 : t.size = 0 := by simpa [Array.isEmpty] using h
  exact List.eq_nil_of_length_eq_zero (by simpa using h0)
theorem xw_table {y : MethodName} {bytes : ByteArray} {maxL : Nat} {ret : Option FieldType} {hh : List (Nat × Nat × Nat × Nat)} {T : State} (X : Stand p l e R s m args below meth c T locs cells slots) (hn : s.methodNamed? y = some m) (h : (Cond.codeWith y bytes maxL ret hh).before args s = true) : c.exceptionTable.toList = tableOf hh := by
  obtain ⟨m9, meth', c', hn9, h1, h2, -, -, h5, -⟩ := Cond.codeWith_spec h
  cases hn.symm.trans hn9
  cases X.method.symm.trans h1
  cases X.code.symm.trans h2
  rw [← h5, table_eq]
variable {y : MethodName} {bytes cc : ByteArray} {maxL nL mc ms n index pc : Nat} {ret : Option FieldType} {hh : List (Nat × Nat × Nat × Nat)} {ws Ts : List Cond} {rm : Room} {Pc : Array Value → State → Prop} {Qc : Array Value → State → Outcome → State → Prop} {free : Addr → Prop} {own : String} {As rest : List Value} {g : JFrame}
theorem xw_runS (S : CallFix p m c cc nL s args wAll own) (hM : Met l y (Cond.codeWith y bytes maxL ret hh :: wAll) rm Pc Qc mc ms free) (kc : Cond.codeWith y bytes maxL ret hh ∈ wAll) (kl : Cond.methodLink own index y ∈ wAll) (ks : Cond.static y ∈ wAll) (ki : Cond.initialized y.cls ∈ wAll) (hrc : rm.cells = mc) (hrs : rm.slots = ms)
    (hd : y.cls ≠ "java/lang/invoke/MethodHandle" ∧ y.cls ≠ "java/lang/invoke/VarHandle" ∧ (parseMethodDescriptor y.desc).map (fun d => d.parameters.length) = some n) (hR : rm.frames + 1 ≤ R.frames ∧ 8 + (maxL + 11) + rm.locals ≤ R.locals) (hp : PreS s H Pc As)
    (hg : g.method = m) (hn : As.length = n) (hsize : g.locals.size = nL) (hstack : g.stack = As.reverse ++ rest) (hW : 2 * g.monitorRoom + (rest.map fun v => v.category).sum ≤ 8) (hdg : decode cc g.pc = .ok (.invokestatic index, 3)) (hf : cells + mc ≤ R.cells ∧ slots + ms ≤ R.slots) :
    va_Run p l e R s m args below meth c H locs cells slots mc ms g rest (Qc As.toArray) free := by
  obtain ⟨hx, hb, hml, ho, hts⟩ := S
  have hG : GoodIn wAll (Cond.codeWith y bytes maxL ret hh :: wAll) := by
    intro w hw
    have hm : w ∈ wAll := by
      rcases List.mem_cons.mp hw with rfl | h
      · exact kc
      · exact h
    exact ⟨hm, wAll_good hm⟩
  have hini := hts _ ki
  have hK : Back l R p e below s args y 3 8 (PreOf R mc ms Pc) (PostOf Qc mc ms free) := va_backW (hh := hh) (bytes := bytes) (maxL := maxL) (ret := ret) hM hp.1 hrc hrs hR.1 hR.2 (pay_in hts hG) List.mem_cons_self (fun a' U hW => word_at hW (Or.inl (by first | rfl | simp [Cond.onTables, Cond.keeps, Cond.steady])) hini)
  intro T hT X
  obtain ⟨mk, methM, cM, hnamed, hmethM, -, -, -, -, -, -, hsigM⟩ := Cond.codeWith_spec (hts _ kc)
  have hstatic : methM.isStatic = true := Cond.static_spec hnamed hmethM (hts _ ks)
  obtain ⟨kP, hkP, -⟩ := className_of_methodNamed hnamed
  have hinitP : kP.init = .initialized := Cond.initialized_spec (findClass_of_methodNamed hnamed) hkP hini
  have hlen : As.length = methM.sig.parameters.length := by
    have h2 := hd.2.2
    rw [hsigM] at h2
    exact hn.trans (Option.some.inj h2).symm
  obtain ⟨vm₁, X₁, hstep₁⟩ := X.invokestatic hx ho (hts _ kl) hnamed hmethM hstatic hkP hinitP ⟨hd.1, hd.2.1⟩ (g := g) hg (argsL := As) (rest := rest) hlen hstack (by rw [hb]; exact hdg)
  obtain ⟨v, B, X', hpost, hsteps⟩ := hK m meth c ⟨T.setVm vm₁, locs, cells, slots⟩ { g with stack := rest } (.invokestatic index) mk As.toArray X₁ hg (hsize.trans hml.symm) (by rw [hb]; exact hdg) hW (X₁.named hnamed) ⟨hf.1, hf.2, hp.2 (T.setVm vm₁) hT X₁.warmed⟩
  obtain ⟨U', l2, c2, s2⟩ := B
  obtain ⟨g', mk', t, L, e1, e2, hq, h1, hL, h2, h3⟩ := hpost
  dsimp only [Pt.U, Pt.locs, Pt.cells, Pt.slots] at X' e1 e2 h1 h2 h3 hsteps
  subst h1; subst h2; subst h3
  exact ⟨v, (T.setVm vm₁).calling g' mk' As.toArray, t, U', L, hT, X', hL, e1, e2, hq, fun target h => hstep₁ _ fun acts => by rw [doInvoke_state]; exact hsteps.trans h⟩
end XW
section XM
variable {p : Program} {l : Launch} {e : Env} {R : Room} {s : State} {m : MethodId} {args : Array Value} {below : List Frame} {meth : Method} {c : Code} {H : Heap} {locs : List Loc} {cells slots : Nat} {Q : State → Prop}
variable {cc : ByteArray} {pc : Nat} {ls : Array Slot} {rest st0 : List Value} {D : va_G} {cl : List vw_C} {A : Nat → Prop} {a : Nat} {tys : List (ClassId × FieldType)} {ws ws' : va_W} {av : Array Value}
theorem mu_free (hD : va_D A ws) (hS : va_S A s.heap H locs) (hA : ∀ q, s.heap.size ≤ q → A q) : ∀ q, va_A ws H.size q → A q := by
  intro q h
  rcases h with ⟨k, e, h⟩ | h
  · exact hD.2 k (q, e) h
  · exact hA q (Nat.le_trans hS.1 h)
/-- a call of a method that writes into the whole of the caller's world -/
theorem mu_callv (hr : va_Run p l e R s m args below meth c H locs cells slots 0 0 (F0 m pc ls st0) rest (va_Qv (fun _ : Unit => True) (mu_B D cl tys (va_A ws H.size) ws') (va_A ws H.size) av) (va_A ws H.size)) (hD : va_D A ws) (hS : va_S A s.heap H locs) (hA : ∀ q, s.heap.size ≤ q → A q)
    (kk : ∀ (H1 : Heap) (locs1 : List Loc), va_P D cl ws' H1 → va_D A ws' → va_S A s.heap H1 locs1 → W p l e R s m args below meth c H1 locs1 cells slots Q (F0 m (pc + 3) ls rest)) : W p l e R s m args below meth c H locs cells slots Q (F0 m pc ls st0) := by
  have hF := mu_free hD hS hA
  refine va_callv hr hS (fun q _ h => hF q h) hF (fun u t H1 locs1 ht hvm hw hB hz hk hS1 => ?_)
  obtain ⟨hP1, hK1, hD1⟩ := hB
  rw [ht] at hP1
  exact kk H1 locs1 hP1 (hD1.weaken (fun k q _ h => hF q.1 h)) hS1
theorem mu_calli {post : Int32 → Unit → Prop} (hr : va_Run p l e R s m args below meth c H locs cells slots 0 0 (F0 m pc ls st0) rest (va_Qi post (mu_B D cl tys (va_A ws H.size) ws') (va_A ws H.size) av) (va_A ws H.size)) (hD : va_D A ws) (hS : va_S A s.heap H locs) (hA : ∀ q, s.heap.size ≤ q → A q)
    (kk : ∀ (r : Int32) (H1 : Heap) (locs1 : List Loc), post r () → va_P D cl ws' H1 → va_D A ws' → va_S A s.heap H1 locs1 → W p l e R s m args below meth c H1 locs1 cells slots Q (F0 m (pc + 3) ls (.int r :: rest))) : W p l e R s m args below meth c H locs cells slots Q (F0 m pc ls st0) := by
  have hF := mu_free hD hS hA
  refine va_calli hr hS (fun q _ h => hF q h) hF (fun r u t H1 locs1 ht hvm hw hB hz hk hS1 => ?_)
  obtain ⟨hP1, hK1, hD1⟩ := hB
  rw [ht] at hP1
  exact kk r H1 locs1 hw hP1 (hD1.weaken (fun k q _ h => hF q.1 h)) hS1
/-- a new array of ints, of the class that is known -/
theorem xa_newI (hexec : p.tables.exec = Jvm.exec) (hb : c.code = cc) (harr : (Cond.arrayClass .int).before args s = true) (hK : va_K D cl tys s) (hP : va_P D cl ws H) (hD : va_D A ws) (hS : va_S A s.heap H locs) (hA : ∀ q, s.heap.size ≤ q → A q) (t0 : Nat) {cI : ClassId} (ht : tys[t0]? = some (cI, .int))
    {N' : Nat} (hN : N' < 2 ^ 27) (hcells : cells + 1 ≤ R.cells) (hslots : slots + N' ≤ R.slots) (hdg : decode cc pc = .ok (.newarray .int, 2))
    (kk : ∀ (q : Nat) (H1 : Heap), va_P D cl (ws ++ [(q, .inl (cI, N', .inl (fun _ => 0)))]) H1 → va_D A (ws ++ [(q, .inl (cI, N', .inl (fun _ => 0)))]) → va_S A s.heap H1 locs → W p l e R s m args below meth c H1 locs (cells + 1) (slots + N') Q (F0 m (pc + 2) ls (.ref q :: rest))) : W p l e R s m args below meth c H locs cells slots Q (F0 m pc ls (.int (nI N') :: rest)) := by
  refine va_newa hexec hb (atype := .int) harr (ty := .int) rfl hK hP hD hS hA (N' := N') (a0 := (N', .inl (fun _ => 0))) (fun cA => rfl) (nI_pos (by omega)) (nI_clamp (by omega)) (by show N' * 4 ≤ _; omega) hcells hslots hdg (fun q cA H1 hK1 hP1 hD1 hS1 => ?_)
  have e1 : s.vm.findClass ("[" ++ FieldType.int.toString) = some cI := (hK.2 t0 _ ht).2
  have e2 : s.vm.findClass ("[" ++ FieldType.int.toString) = some cA := (hK1.2 tys.length (cA, .int) (by simp)).2
  cases Option.some.inj (e1.symm.trans e2)
  exact kk q H1 hP1 hD1 hS1
theorem xa_newJ (hexec : p.tables.exec = Jvm.exec) (hb : c.code = cc) (harr : (Cond.arrayClass .long).before args s = true) (hK : va_K D cl tys s) (hP : va_P D cl ws H) (hD : va_D A ws) (hS : va_S A s.heap H locs) (hA : ∀ q, s.heap.size ≤ q → A q) (t0 : Nat) {cJ : ClassId} (ht : tys[t0]? = some (cJ, .long))
    {N' : Nat} (hN : N' < 2 ^ 26) (hcells : cells + 1 ≤ R.cells) (hslots : slots + N' ≤ R.slots) (hdg : decode cc pc = .ok (.newarray .long, 2))
    (kk : ∀ (q : Nat) (H1 : Heap), va_P D cl (ws ++ [(q, .inl (cJ, N', .inr (.inl (fun _ => 0))))]) H1 → va_D A (ws ++ [(q, .inl (cJ, N', .inr (.inl (fun _ => 0))))]) → va_S A s.heap H1 locs → W p l e R s m args below meth c H1 locs (cells + 1) (slots + N') Q (F0 m (pc + 2) ls (.ref q :: rest))) : W p l e R s m args below meth c H locs cells slots Q (F0 m pc ls (.int (nI N') :: rest)) := by
  refine va_newa hexec hb (atype := .long) harr (ty := .long) rfl hK hP hD hS hA (N' := N') (a0 := (N', .inr (.inl (fun _ => 0)))) (fun cA => rfl) (nI_pos (by omega)) (nI_clamp (by omega)) (by show N' * 8 ≤ _; omega) hcells hslots hdg (fun q cA H1 hK1 hP1 hD1 hS1 => ?_)
  have e1 : s.vm.findClass ("[" ++ FieldType.long.toString) = some cJ := (hK.2 t0 _ ht).2
  have e2 : s.vm.findClass ("[" ++ FieldType.long.toString) = some cA := (hK1.2 tys.length (cA, .long) (by simp)).2
  cases Option.some.inj (e1.symm.trans e2)
  exact kk q H1 hP1 hD1 hS1
end XM
end
section
theorem kw_0 : Cond.initialized "ClearingBooksLaw" ∈ wAll := wAll_in (k := 0) (by decide +kernel) (by decide)
theorem kw_1 : Cond.initialized "ClearingBooks" ∈ wAll := wAll_in (k := 1) (by decide +kernel) (by decide)
theorem kw_2 : Cond.initialized "ClearingBooksModel" ∈ wAll := wAll_in (k := 2) (by decide +kernel) (by decide)
theorem kw_3 : Cond.initialized "java/lang/Throwable" ∈ wAll := wAll_in (k := 3) (by decide +kernel) (by decide)
theorem kw_4 : Cond.initialized "java/lang/Exception" ∈ wAll := wAll_in (k := 4) (by decide +kernel) (by decide)
theorem kw_5 : Cond.initialized "java/lang/RuntimeException" ∈ wAll := wAll_in (k := 5) (by decide +kernel) (by decide)
theorem kw_6 : Cond.initialized "java/lang/IllegalArgumentException" ∈ wAll := wAll_in (k := 6) (by decide +kernel) (by decide)
theorem kw_7 : Cond.initialized "java/lang/IllegalStateException" ∈ wAll := wAll_in (k := 7) (by decide +kernel) (by decide)
theorem kw_8 : Cond.initialized "java/lang/Math" ∈ wAll := wAll_in (k := 8) (by decide +kernel) (by decide)
theorem kw_9 : Cond.classLink "ClearingBooksLaw" 8 "ClearingBooks" ∈ wAll := wAll_in (k := 9) (by decide +kernel) (by decide)
theorem kw_10 : Cond.instantiable "ClearingBooks" 12 ∈ wAll := wAll_in (k := 10) (by decide +kernel) (by decide)
theorem kw_11 : Cond.methodLink "ClearingBooksLaw" 41 y_B_init ∈ wAll := wAll_in (k := 11) (by decide +kernel) (by decide)
theorem kw_12 : Cond.instanceMethod y_B_init ∈ wAll := wAll_in (k := 12) (by decide +kernel) (by decide)
theorem kw_13 : Cond.code y_B_init prog_1_method_1_code 1 none ∈ wAll := wAll_in (k := 13) (by rfl) (by decide)
theorem kw_14 : Cond.methodLink "ClearingBooks" 3 ⟨"java/lang/Object", "<init>", "()V"⟩ ∈ wAll := wAll_in (k := 14) (by decide +kernel) (by decide)
theorem kw_15 : Cond.instanceMethod ⟨"java/lang/Object", "<init>", "()V"⟩ ∈ wAll := wAll_in (k := 15) (by decide +kernel) (by decide)
theorem kw_16 : Cond.code ⟨"java/lang/Object", "<init>", "()V"⟩ object_method_1_code 1 none ∈ wAll := wAll_in (k := 16) (by rfl) (by decide)
theorem kw_17 : Cond.fieldLink "ClearingBooks" 41 "ClearingBooks" "partyCount" "I" ∈ wAll := wAll_in (k := 17) (by decide +kernel) (by decide)
theorem kw_18 : Cond.fieldLink "ClearingBooks" 9 "ClearingBooks" "kinds" "[I" ∈ wAll := wAll_in (k := 18) (by decide +kernel) (by decide)
theorem kw_19 : Cond.fieldLink "ClearingBooks" 13 "ClearingBooks" "rates" "[I" ∈ wAll := wAll_in (k := 19) (by decide +kernel) (by decide)
theorem kw_20 : Cond.fieldLink "ClearingBooks" 16 "ClearingBooks" "positions" "[J" ∈ wAll := wAll_in (k := 20) (by decide +kernel) (by decide)
theorem kw_21 : Cond.fieldLink "ClearingBooks" 20 "ClearingBooks" "settled" "[J" ∈ wAll := wAll_in (k := 21) (by decide +kernel) (by decide)
theorem kw_22 : Cond.fieldLink "ClearingBooks" 23 "ClearingBooks" "batchCounts" "[I" ∈ wAll := wAll_in (k := 22) (by decide +kernel) (by decide)
theorem kw_23 : Cond.fieldLink "ClearingBooks" 26 "ClearingBooks" "batchSums" "[J" ∈ wAll := wAll_in (k := 23) (by decide +kernel) (by decide)
theorem kw_24 : Cond.fieldLink "ClearingBooks" 29 "ClearingBooks" "open" "[J" ∈ wAll := wAll_in (k := 24) (by decide +kernel) (by decide)
theorem kw_25 : Cond.fieldLink "ClearingBooks" 45 "ClearingBooks" "transferCount" "I" ∈ wAll := wAll_in (k := 25) (by decide +kernel) (by decide)
theorem kw_26 : Cond.fieldLink "ClearingBooks" 32 "ClearingBooks" "payers" "[I" ∈ wAll := wAll_in (k := 26) (by decide +kernel) (by decide)
theorem kw_27 : Cond.fieldLink "ClearingBooks" 35 "ClearingBooks" "payees" "[I" ∈ wAll := wAll_in (k := 27) (by decide +kernel) (by decide)
theorem kw_28 : Cond.fieldLink "ClearingBooks" 38 "ClearingBooks" "payments" "[J" ∈ wAll := wAll_in (k := 28) (by decide +kernel) (by decide)
theorem kw_29 : Cond.lays "ClearingBooks" "ClearingBooks" "partyCount" "I" ∈ wAll := wAll_in (k := 29) (by decide +kernel) (by decide)
theorem kw_31 : Cond.laysFinal "ClearingBooks" "ClearingBooks" "kinds" "[I" ∈ wAll := wAll_in (k := 31) (by decide +kernel) (by decide)
theorem kw_33 : Cond.laysFinal "ClearingBooks" "ClearingBooks" "rates" "[I" ∈ wAll := wAll_in (k := 33) (by decide +kernel) (by decide)
theorem kw_35 : Cond.laysFinal "ClearingBooks" "ClearingBooks" "positions" "[J" ∈ wAll := wAll_in (k := 35) (by decide +kernel) (by decide)
theorem kw_37 : Cond.laysFinal "ClearingBooks" "ClearingBooks" "settled" "[J" ∈ wAll := wAll_in (k := 37) (by decide +kernel) (by decide)
theorem kw_39 : Cond.laysFinal "ClearingBooks" "ClearingBooks" "batchCounts" "[I" ∈ wAll := wAll_in (k := 39) (by decide +kernel) (by decide)
theorem kw_41 : Cond.laysFinal "ClearingBooks" "ClearingBooks" "batchSums" "[J" ∈ wAll := wAll_in (k := 41) (by decide +kernel) (by decide)
theorem kw_43 : Cond.laysFinal "ClearingBooks" "ClearingBooks" "open" "[J" ∈ wAll := wAll_in (k := 43) (by decide +kernel) (by decide)
theorem kw_45 : Cond.lays "ClearingBooks" "ClearingBooks" "transferCount" "I" ∈ wAll := wAll_in (k := 45) (by decide +kernel) (by decide)
theorem kw_47 : Cond.laysFinal "ClearingBooks" "ClearingBooks" "payers" "[I" ∈ wAll := wAll_in (k := 47) (by decide +kernel) (by decide)
theorem kw_49 : Cond.laysFinal "ClearingBooks" "ClearingBooks" "payees" "[I" ∈ wAll := wAll_in (k := 49) (by decide +kernel) (by decide)
theorem kw_51 : Cond.laysFinal "ClearingBooks" "ClearingBooks" "payments" "[J" ∈ wAll := wAll_in (k := 51) (by decide +kernel) (by decide)
theorem kw_53 : Cond.superclass "ClearingBooks" "java/lang/Object" ∈ wAll := wAll_in (k := 53) (by decide +kernel) (by decide)
theorem kw_54 : Cond.arrayClass .int ∈ wAll := wAll_in (k := 54) (by decide +kernel) (by decide)
theorem kw_55 : Cond.arrayClass .long ∈ wAll := wAll_in (k := 55) (by decide +kernel) (by decide)
theorem kw_56 : Cond.methodLink "ClearingBooksLaw" 74 y_B_settle ∈ wAll := wAll_in (k := 56) (by decide +kernel) (by decide)
theorem kw_57 : Cond.instanceMethod y_B_settle ∈ wAll := wAll_in (k := 57) (by decide +kernel) (by decide)
theorem kw_58 : Cond.selects "ClearingBooks" y_B_settle y_B_settle ∈ wAll := wAll_in (k := 58) (by decide +kernel) (by decide)
theorem kw_59 : Cond.code y_B_settle prog_1_method_8_code 2 (some .int) ∈ wAll := wAll_in (k := 59) (by rfl) (by decide)
theorem kw_60 : Cond.methodLink "ClearingBooks" 76 y_B_makeTransfers ∈ wAll := wAll_in (k := 60) (by decide +kernel) (by decide)
theorem kw_62 : Cond.instanceMethod y_B_makeTransfers ∈ wAll := wAll_in (k := 62) (by decide +kernel) (by decide)
theorem kw_63 : Cond.code y_B_makeTransfers prog_1_method_19_code 2 none ∈ wAll := wAll_in (k := 63) (by rfl) (by decide)
theorem kw_64 : Cond.methodLink "ClearingBooks" 114 y_B_leastOpen ∈ wAll := wAll_in (k := 64) (by decide +kernel) (by decide)
theorem kw_66 : Cond.instanceMethod y_B_leastOpen ∈ wAll := wAll_in (k := 66) (by decide +kernel) (by decide)
theorem kw_67 : Cond.code y_B_leastOpen prog_1_method_21_code 3 (some .int) ∈ wAll := wAll_in (k := 67) (by rfl) (by decide)
theorem kw_68 : Cond.methodLink "ClearingBooks" 118 y_B_greatestOpen ∈ wAll := wAll_in (k := 68) (by decide +kernel) (by decide)
theorem kw_70 : Cond.instanceMethod y_B_greatestOpen ∈ wAll := wAll_in (k := 70) (by decide +kernel) (by decide)
theorem kw_71 : Cond.code y_B_greatestOpen prog_1_method_22_code 3 (some .int) ∈ wAll := wAll_in (k := 71) (by rfl) (by decide)
theorem kw_72 : Cond.methodLink "ClearingBooks" 121 y_B_makeTransfer ∈ wAll := wAll_in (k := 72) (by decide +kernel) (by decide)
theorem kw_74 : Cond.instanceMethod y_B_makeTransfer ∈ wAll := wAll_in (k := 74) (by decide +kernel) (by decide)
theorem kw_75 : Cond.code y_B_makeTransfer prog_1_method_20_code 5 none ∈ wAll := wAll_in (k := 75) (by rfl) (by decide)
theorem kw_76 : Cond.methodLink "ClearingBooks" 124 ⟨"java/lang/Math", "min", "(JJ)J"⟩ ∈ wAll := wAll_in (k := 76) (by decide +kernel) (by decide)
theorem kw_77 : Cond.static ⟨"java/lang/Math", "min", "(JJ)J"⟩ ∈ wAll := wAll_in (k := 77) (by decide +kernel) (by decide)
theorem kw_78 : Cond.code ⟨"java/lang/Math", "min", "(JJ)J"⟩ prog_7_method_70_code 4 (some .long) ∈ wAll := wAll_in (k := 78) (by rfl) (by decide)
theorem kw_79 : Cond.methodLink "ClearingBooksLaw" 84 y_B_parties ∈ wAll := wAll_in (k := 79) (by decide +kernel) (by decide)
theorem kw_80 : Cond.instanceMethod y_B_parties ∈ wAll := wAll_in (k := 80) (by decide +kernel) (by decide)
theorem kw_81 : Cond.selects "ClearingBooks" y_B_parties y_B_parties ∈ wAll := wAll_in (k := 81) (by decide +kernel) (by decide)
theorem kw_82 : Cond.code y_B_parties prog_1_method_11_code 1 (some .int) ∈ wAll := wAll_in (k := 82) (by rfl) (by decide)
theorem kw_83 : Cond.methodLink "ClearingBooksLaw" 88 y_B_audit ∈ wAll := wAll_in (k := 83) (by decide +kernel) (by decide)
theorem kw_84 : Cond.instanceMethod y_B_audit ∈ wAll := wAll_in (k := 84) (by decide +kernel) (by decide)
theorem kw_85 : Cond.selects "ClearingBooks" y_B_audit y_B_audit ∈ wAll := wAll_in (k := 85) (by decide +kernel) (by decide)
theorem kw_86 : Cond.code y_B_audit prog_1_method_12_code 3 (some .int) ∈ wAll := wAll_in (k := 86) (by rfl) (by decide)
theorem kw_87 : Cond.methodLink "ClearingBooks" 95 y_B_sumOf ∈ wAll := wAll_in (k := 87) (by decide +kernel) (by decide)
theorem kw_89 : Cond.instanceMethod y_B_sumOf ∈ wAll := wAll_in (k := 89) (by decide +kernel) (by decide)
theorem kw_90 : Cond.code y_B_sumOf prog_1_method_24_code 5 (some .long) ∈ wAll := wAll_in (k := 90) (by rfl) (by decide)
theorem kw_91 : Cond.methodLink "ClearingBooksLaw" 45 y_L_acquirer ∈ wAll := wAll_in (k := 91) (by decide +kernel) (by decide)
theorem kw_92 : Cond.static y_L_acquirer ∈ wAll := wAll_in (k := 92) (by decide +kernel) (by decide)
theorem kw_93 : Cond.codeWith y_L_acquirer method_3_code 4 (some .int) [(0, 9, 12, 13), (0, 9, 15, 15)] ∈ wAll := wAll_in (k := 93) (by rfl) (by decide)
theorem kw_94 : Cond.classLink "ClearingBooksLaw" 13 "java/lang/IllegalArgumentException" ∈ wAll := wAll_in (k := 94) (by decide +kernel) (by decide)
theorem kw_95 : Cond.classLink "ClearingBooksLaw" 15 "java/lang/IllegalStateException" ∈ wAll := wAll_in (k := 95) (by decide +kernel) (by decide)
theorem kw_96 : Cond.methodLink "ClearingBooksLaw" 7 y_B_acquirer ∈ wAll := wAll_in (k := 96) (by decide +kernel) (by decide)
theorem kw_97 : Cond.instanceMethod y_B_acquirer ∈ wAll := wAll_in (k := 97) (by decide +kernel) (by decide)
theorem kw_98 : Cond.selects "ClearingBooks" y_B_acquirer y_B_acquirer ∈ wAll := wAll_in (k := 98) (by decide +kernel) (by decide)
theorem kw_99 : Cond.code y_B_acquirer prog_1_method_2_code 2 (some .int) ∈ wAll := wAll_in (k := 99) (by rfl) (by decide)
theorem kw_100 : Cond.methodLink "ClearingBooks" 48 y_B_enter ∈ wAll := wAll_in (k := 100) (by decide +kernel) (by decide)
theorem kw_102 : Cond.instanceMethod y_B_enter ∈ wAll := wAll_in (k := 102) (by decide +kernel) (by decide)
theorem kw_103 : Cond.code y_B_enter prog_1_method_13_code 4 (some .int) ∈ wAll := wAll_in (k := 103) (by rfl) (by decide)
theorem kw_104 : Cond.classLink "ClearingBooks" 69 "java/lang/IllegalArgumentException" ∈ wAll := wAll_in (k := 104) (by decide +kernel) (by decide)
theorem kw_105 : Cond.instantiable "java/lang/IllegalArgumentException" 6 ∈ wAll := wAll_in (k := 105) (by decide +kernel) (by decide)
theorem kw_113 : Cond.selects "java/lang/IllegalArgumentException" ⟨"java/lang/Throwable", "fillInStackTrace", "(I)Ljava/lang/Throwable;"⟩ ⟨"java/lang/Throwable", "fillInStackTrace", "(I)Ljava/lang/Throwable;"⟩ ∈ wAll := wAll_in (k := 113) (by decide +kernel) (by decide)
theorem kw_114 : Cond.selects "java/lang/IllegalArgumentException" ⟨"java/lang/Throwable", "fillInStackTrace", "()Ljava/lang/Throwable;"⟩ ⟨"java/lang/Throwable", "fillInStackTrace", "()Ljava/lang/Throwable;"⟩ ∈ wAll := wAll_in (k := 114) (by decide +kernel) (by decide)
theorem kw_115 : Cond.lays "java/lang/IllegalArgumentException" "java/lang/Throwable" "cause" "Ljava/lang/Throwable;" ∈ wAll := wAll_in (k := 115) (by decide +kernel) (by decide)
theorem kw_116 : Cond.lays "java/lang/Throwable" "java/lang/Throwable" "cause" "Ljava/lang/Throwable;" ∈ wAll := wAll_in (k := 116) (by decide +kernel) (by decide)
theorem kw_117 : Cond.lays "java/lang/IllegalArgumentException" "java/lang/Throwable" "stackTrace" "[Ljava/lang/StackTraceElement;" ∈ wAll := wAll_in (k := 117) (by decide +kernel) (by decide)
theorem kw_118 : Cond.lays "java/lang/Throwable" "java/lang/Throwable" "stackTrace" "[Ljava/lang/StackTraceElement;" ∈ wAll := wAll_in (k := 118) (by decide +kernel) (by decide)
theorem kw_119 : Cond.lays "java/lang/IllegalArgumentException" "java/lang/Throwable" "suppressedExceptions" "Ljava/util/List;" ∈ wAll := wAll_in (k := 119) (by decide +kernel) (by decide)
theorem kw_120 : Cond.lays "java/lang/Throwable" "java/lang/Throwable" "suppressedExceptions" "Ljava/util/List;" ∈ wAll := wAll_in (k := 120) (by decide +kernel) (by decide)
theorem kw_121 : Cond.lays "java/lang/IllegalArgumentException" "java/lang/Throwable" "detailMessage" "Ljava/lang/String;" ∈ wAll := wAll_in (k := 121) (by decide +kernel) (by decide)
theorem kw_122 : Cond.lays "java/lang/Throwable" "java/lang/Throwable" "detailMessage" "Ljava/lang/String;" ∈ wAll := wAll_in (k := 122) (by decide +kernel) (by decide)
theorem kw_123 : Cond.lays "java/lang/IllegalArgumentException" "java/lang/Throwable" "backtrace" "Ljava/lang/Object;" ∈ wAll := wAll_in (k := 123) (by decide +kernel) (by decide)
theorem kw_124 : Cond.lays "java/lang/Throwable" "java/lang/Throwable" "backtrace" "Ljava/lang/Object;" ∈ wAll := wAll_in (k := 124) (by decide +kernel) (by decide)
theorem kw_125 : Cond.fieldLink "java/lang/Throwable" 198 "java/lang/Throwable" "backtrace" "Ljava/lang/Object;" ∈ wAll := wAll_in (k := 125) (by decide +kernel) (by decide)
theorem kw_126 : Cond.superclass "java/lang/Throwable" "java/lang/Object" ∈ wAll := wAll_in (k := 126) (by decide +kernel) (by decide)
theorem kw_127 : Cond.instanceMethod ⟨"java/lang/Throwable", "<init>", "()V"⟩ ∈ wAll := wAll_in (k := 127) (by decide +kernel) (by decide)
theorem kw_128 : Cond.code ⟨"java/lang/Throwable", "<init>", "()V"⟩ prog_10_method_1_code 1 none ∈ wAll := wAll_in (k := 128) (by rfl) (by decide)
theorem kw_129 : Cond.methodLink "java/lang/Throwable" 1 ⟨"java/lang/Object", "<init>", "()V"⟩ ∈ wAll := wAll_in (k := 129) (by decide +kernel) (by decide)
theorem kw_130 : Cond.fieldLink "java/lang/Throwable" 13 "java/lang/Throwable" "UNASSIGNED_STACK" "[Ljava/lang/StackTraceElement;" ∈ wAll := wAll_in (k := 130) (by decide +kernel) (by decide)
theorem kw_132 : Cond.fieldLink "java/lang/Throwable" 20 "java/lang/Throwable" "SUPPRESSED_SENTINEL" "Ljava/util/List;" ∈ wAll := wAll_in (k := 132) (by decide +kernel) (by decide)
theorem kw_134 : Cond.methodLink "java/lang/Throwable" 27 ⟨"java/lang/Throwable", "fillInStackTrace", "()Ljava/lang/Throwable;"⟩ ∈ wAll := wAll_in (k := 134) (by decide +kernel) (by decide)
theorem kw_135 : Cond.instanceMethod ⟨"java/lang/Throwable", "fillInStackTrace", "()Ljava/lang/Throwable;"⟩ ∈ wAll := wAll_in (k := 135) (by decide +kernel) (by decide)
theorem kw_137 : Cond.selects "java/lang/IllegalStateException" ⟨"java/lang/Throwable", "fillInStackTrace", "()Ljava/lang/Throwable;"⟩ ⟨"java/lang/Throwable", "fillInStackTrace", "()Ljava/lang/Throwable;"⟩ ∈ wAll := wAll_in (k := 137) (by decide +kernel) (by decide)
theorem kw_138 : Cond.codeSync ⟨"java/lang/Throwable", "fillInStackTrace", "()Ljava/lang/Throwable;"⟩ prog_10_method_18_code 1 (some (.object "java/lang/Throwable")) ∈ wAll := wAll_in (k := 138) (by rfl) (by decide)
theorem kw_139 : Cond.methodLink "java/lang/Throwable" 202 ⟨"java/lang/Throwable", "fillInStackTrace", "(I)Ljava/lang/Throwable;"⟩ ∈ wAll := wAll_in (k := 139) (by decide +kernel) (by decide)
theorem kw_141 : Cond.instanceMethod ⟨"java/lang/Throwable", "fillInStackTrace", "(I)Ljava/lang/Throwable;"⟩ ∈ wAll := wAll_in (k := 141) (by decide +kernel) (by decide)
theorem kw_142 : Cond.instantiable "java/lang/Throwable" 6 ∈ wAll := wAll_in (k := 142) (by decide +kernel) (by decide)
theorem kw_143 : Cond.native ⟨"java/lang/Throwable", "fillInStackTrace", "(I)Ljava/lang/Throwable;"⟩ ∈ wAll := wAll_in (k := 143) (by decide +kernel) (by decide)
theorem kw_145 : Cond.methodLink "ClearingBooks" 73 ⟨"java/lang/IllegalArgumentException", "<init>", "(Ljava/lang/String;)V"⟩ ∈ wAll := wAll_in (k := 145) (by decide +kernel) (by decide)
theorem kw_146 : Cond.instanceMethod ⟨"java/lang/IllegalArgumentException", "<init>", "(Ljava/lang/String;)V"⟩ ∈ wAll := wAll_in (k := 146) (by decide +kernel) (by decide)
theorem kw_147 : Cond.code ⟨"java/lang/IllegalArgumentException", "<init>", "(Ljava/lang/String;)V"⟩ prog_5_method_2_code 2 none ∈ wAll := wAll_in (k := 147) (by rfl) (by decide)
theorem kw_148 : Cond.methodLink "java/lang/IllegalArgumentException" 7 ⟨"java/lang/RuntimeException", "<init>", "(Ljava/lang/String;)V"⟩ ∈ wAll := wAll_in (k := 148) (by decide +kernel) (by decide)
theorem kw_149 : Cond.instanceMethod ⟨"java/lang/RuntimeException", "<init>", "(Ljava/lang/String;)V"⟩ ∈ wAll := wAll_in (k := 149) (by decide +kernel) (by decide)
theorem kw_150 : Cond.code ⟨"java/lang/RuntimeException", "<init>", "(Ljava/lang/String;)V"⟩ prog_8_method_2_code 2 none ∈ wAll := wAll_in (k := 150) (by rfl) (by decide)
theorem kw_151 : Cond.methodLink "java/lang/RuntimeException" 7 ⟨"java/lang/Exception", "<init>", "(Ljava/lang/String;)V"⟩ ∈ wAll := wAll_in (k := 151) (by decide +kernel) (by decide)
theorem kw_152 : Cond.instanceMethod ⟨"java/lang/Exception", "<init>", "(Ljava/lang/String;)V"⟩ ∈ wAll := wAll_in (k := 152) (by decide +kernel) (by decide)
theorem kw_153 : Cond.code ⟨"java/lang/Exception", "<init>", "(Ljava/lang/String;)V"⟩ prog_4_method_2_code 2 none ∈ wAll := wAll_in (k := 153) (by rfl) (by decide)
theorem kw_154 : Cond.methodLink "java/lang/Exception" 7 ⟨"java/lang/Throwable", "<init>", "(Ljava/lang/String;)V"⟩ ∈ wAll := wAll_in (k := 154) (by decide +kernel) (by decide)
theorem kw_155 : Cond.instanceMethod ⟨"java/lang/Throwable", "<init>", "(Ljava/lang/String;)V"⟩ ∈ wAll := wAll_in (k := 155) (by decide +kernel) (by decide)
theorem kw_156 : Cond.code ⟨"java/lang/Throwable", "<init>", "(Ljava/lang/String;)V"⟩ prog_10_method_2_code 2 none ∈ wAll := wAll_in (k := 156) (by rfl) (by decide)
theorem kw_157 : Cond.fieldLink "java/lang/Throwable" 198 "java/lang/Throwable" "backtrace" "Ljava/lang/Object;" ∈ wAll := wAll_in (k := 157) (by decide +kernel) (by decide)
theorem kw_158 : Cond.fieldLink "java/lang/Throwable" 31 "java/lang/Throwable" "detailMessage" "Ljava/lang/String;" ∈ wAll := wAll_in (k := 158) (by decide +kernel) (by decide)
theorem kw_159 : Cond.fieldLink "java/lang/Throwable" 7 "java/lang/Throwable" "cause" "Ljava/lang/Throwable;" ∈ wAll := wAll_in (k := 159) (by decide +kernel) (by decide)
theorem kw_160 : Cond.fieldLink "java/lang/Throwable" 17 "java/lang/Throwable" "stackTrace" "[Ljava/lang/StackTraceElement;" ∈ wAll := wAll_in (k := 160) (by decide +kernel) (by decide)
theorem kw_161 : Cond.fieldLink "java/lang/Throwable" 24 "java/lang/Throwable" "suppressedExceptions" "Ljava/util/List;" ∈ wAll := wAll_in (k := 161) (by decide +kernel) (by decide)
theorem kw_166 : Cond.lays "java/lang/IllegalArgumentException" "java/lang/Throwable" "depth" "I" ∈ wAll := wAll_in (k := 166) (by decide +kernel) (by decide)
theorem kw_169 : Cond.superclass "java/lang/IllegalArgumentException" "java/lang/RuntimeException" ∈ wAll := wAll_in (k := 169) (by decide +kernel) (by decide)
theorem kw_170 : Cond.arrayClass .byte ∈ wAll := wAll_in (k := 170) (by decide +kernel) (by decide)
theorem kw_171 : Cond.classLink "ClearingBooks" 101 "java/lang/IllegalStateException" ∈ wAll := wAll_in (k := 171) (by decide +kernel) (by decide)
theorem kw_172 : Cond.instantiable "java/lang/IllegalStateException" 6 ∈ wAll := wAll_in (k := 172) (by decide +kernel) (by decide)
theorem kw_174 : Cond.selects "java/lang/IllegalStateException" ⟨"java/lang/Throwable", "fillInStackTrace", "(I)Ljava/lang/Throwable;"⟩ ⟨"java/lang/Throwable", "fillInStackTrace", "(I)Ljava/lang/Throwable;"⟩ ∈ wAll := wAll_in (k := 174) (by decide +kernel) (by decide)
theorem kw_175 : Cond.lays "java/lang/IllegalStateException" "java/lang/Throwable" "cause" "Ljava/lang/Throwable;" ∈ wAll := wAll_in (k := 175) (by decide +kernel) (by decide)
theorem kw_176 : Cond.lays "java/lang/IllegalStateException" "java/lang/Throwable" "stackTrace" "[Ljava/lang/StackTraceElement;" ∈ wAll := wAll_in (k := 176) (by decide +kernel) (by decide)
theorem kw_177 : Cond.lays "java/lang/IllegalStateException" "java/lang/Throwable" "suppressedExceptions" "Ljava/util/List;" ∈ wAll := wAll_in (k := 177) (by decide +kernel) (by decide)
theorem kw_178 : Cond.lays "java/lang/IllegalStateException" "java/lang/Throwable" "detailMessage" "Ljava/lang/String;" ∈ wAll := wAll_in (k := 178) (by decide +kernel) (by decide)
theorem kw_179 : Cond.lays "java/lang/IllegalStateException" "java/lang/Throwable" "backtrace" "Ljava/lang/Object;" ∈ wAll := wAll_in (k := 179) (by decide +kernel) (by decide)
theorem kw_181 : Cond.methodLink "ClearingBooks" 105 ⟨"java/lang/IllegalStateException", "<init>", "(Ljava/lang/String;)V"⟩ ∈ wAll := wAll_in (k := 181) (by decide +kernel) (by decide)
theorem kw_182 : Cond.instanceMethod ⟨"java/lang/IllegalStateException", "<init>", "(Ljava/lang/String;)V"⟩ ∈ wAll := wAll_in (k := 182) (by decide +kernel) (by decide)
theorem kw_183 : Cond.code ⟨"java/lang/IllegalStateException", "<init>", "(Ljava/lang/String;)V"⟩ prog_6_method_2_code 2 none ∈ wAll := wAll_in (k := 183) (by rfl) (by decide)
theorem kw_184 : Cond.methodLink "java/lang/IllegalStateException" 7 ⟨"java/lang/RuntimeException", "<init>", "(Ljava/lang/String;)V"⟩ ∈ wAll := wAll_in (k := 184) (by decide +kernel) (by decide)
theorem kw_185 : Cond.lays "java/lang/IllegalStateException" "java/lang/Throwable" "depth" "I" ∈ wAll := wAll_in (k := 185) (by decide +kernel) (by decide)
theorem kw_186 : Cond.superclass "java/lang/IllegalStateException" "java/lang/RuntimeException" ∈ wAll := wAll_in (k := 186) (by decide +kernel) (by decide)
theorem kw_187 : Cond.methodLink "ClearingBooksLaw" 55 y_L_issuer ∈ wAll := wAll_in (k := 187) (by decide +kernel) (by decide)
theorem kw_188 : Cond.static y_L_issuer ∈ wAll := wAll_in (k := 188) (by decide +kernel) (by decide)
theorem kw_189 : Cond.codeWith y_L_issuer method_4_code 4 (some .int) [(0, 9, 12, 13), (0, 9, 15, 15)] ∈ wAll := wAll_in (k := 189) (by rfl) (by decide)
theorem kw_190 : Cond.methodLink "ClearingBooksLaw" 17 y_B_issuer ∈ wAll := wAll_in (k := 190) (by decide +kernel) (by decide)
theorem kw_191 : Cond.instanceMethod y_B_issuer ∈ wAll := wAll_in (k := 191) (by decide +kernel) (by decide)
theorem kw_192 : Cond.selects "ClearingBooks" y_B_issuer y_B_issuer ∈ wAll := wAll_in (k := 192) (by decide +kernel) (by decide)
theorem kw_193 : Cond.code y_B_issuer prog_1_method_3_code 2 (some .int) ∈ wAll := wAll_in (k := 193) (by rfl) (by decide)
theorem kw_194 : Cond.methodLink "ClearingBooksLaw" 60 y_L_clear ∈ wAll := wAll_in (k := 194) (by decide +kernel) (by decide)
theorem kw_195 : Cond.static y_L_clear ∈ wAll := wAll_in (k := 195) (by decide +kernel) (by decide)
theorem kw_196 : Cond.codeWith y_L_clear method_5_code 7 (some .int) [(0, 11, 14, 13)] ∈ wAll := wAll_in (k := 196) (by rfl) (by decide)
theorem kw_197 : Cond.methodLink "ClearingBooksLaw" 20 y_B_clear ∈ wAll := wAll_in (k := 197) (by decide +kernel) (by decide)
theorem kw_198 : Cond.instanceMethod y_B_clear ∈ wAll := wAll_in (k := 198) (by decide +kernel) (by decide)
theorem kw_199 : Cond.selects "ClearingBooks" y_B_clear y_B_clear ∈ wAll := wAll_in (k := 199) (by decide +kernel) (by decide)
theorem kw_200 : Cond.code y_B_clear prog_1_method_4_code 9 (some .long) ∈ wAll := wAll_in (k := 200) (by rfl) (by decide)
theorem kw_201 : Cond.methodLink "ClearingBooks" 52 y_B_requireKind ∈ wAll := wAll_in (k := 201) (by decide +kernel) (by decide)
theorem kw_203 : Cond.instanceMethod y_B_requireKind ∈ wAll := wAll_in (k := 203) (by decide +kernel) (by decide)
theorem kw_204 : Cond.code y_B_requireKind prog_1_method_15_code 3 none ∈ wAll := wAll_in (k := 204) (by rfl) (by decide)
theorem kw_205 : Cond.methodLink "ClearingBooks" 83 y_B_isParty ∈ wAll := wAll_in (k := 205) (by decide +kernel) (by decide)
theorem kw_207 : Cond.instanceMethod y_B_isParty ∈ wAll := wAll_in (k := 207) (by decide +kernel) (by decide)
theorem kw_208 : Cond.code y_B_isParty prog_1_method_14_code 2 (some .boolean) ∈ wAll := wAll_in (k := 208) (by rfl) (by decide)
theorem kw_210 : Cond.methodLink "ClearingBooks" 56 y_B_requireAmount ∈ wAll := wAll_in (k := 210) (by decide +kernel) (by decide)
theorem kw_211 : Cond.static y_B_requireAmount ∈ wAll := wAll_in (k := 211) (by decide +kernel) (by decide)
theorem kw_212 : Cond.code y_B_requireAmount prog_1_method_16_code 4 none ∈ wAll := wAll_in (k := 212) (by rfl) (by decide)
theorem kw_213 : Cond.constantLong "ClearingBooks" 108 (1000000000000 : Int64) ∈ wAll := wAll_in (k := 213) (by decide +kernel) (by decide)
theorem kw_215 : Cond.methodLink "ClearingBooks" 60 y_B_partRoundedUp ∈ wAll := wAll_in (k := 215) (by decide +kernel) (by decide)
theorem kw_216 : Cond.static y_B_partRoundedUp ∈ wAll := wAll_in (k := 216) (by decide +kernel) (by decide)
theorem kw_217 : Cond.code y_B_partRoundedUp prog_1_method_18_code 3 (some .long) ∈ wAll := wAll_in (k := 217) (by rfl) (by decide)
theorem kw_218 : Cond.constantLong "ClearingBooks" 112 (10000 : Int64) ∈ wAll := wAll_in (k := 218) (by decide +kernel) (by decide)
theorem kw_219 : Cond.methodLink "ClearingBooks" 64 y_B_partRoundedDown ∈ wAll := wAll_in (k := 219) (by decide +kernel) (by decide)
theorem kw_220 : Cond.static y_B_partRoundedDown ∈ wAll := wAll_in (k := 220) (by decide +kernel) (by decide)
theorem kw_221 : Cond.code y_B_partRoundedDown prog_1_method_17_code 3 (some .long) ∈ wAll := wAll_in (k := 221) (by rfl) (by decide)
theorem kw_222 : Cond.methodLink "ClearingBooksLaw" 64 y_L_back ∈ wAll := wAll_in (k := 222) (by decide +kernel) (by decide)
theorem kw_223 : Cond.static y_L_back ∈ wAll := wAll_in (k := 223) (by decide +kernel) (by decide)
theorem kw_224 : Cond.codeWith y_L_back method_6_code 7 (some .int) [(0, 11, 14, 13)] ∈ wAll := wAll_in (k := 224) (by rfl) (by decide)
theorem kw_225 : Cond.methodLink "ClearingBooksLaw" 24 y_B_back ∈ wAll := wAll_in (k := 225) (by decide +kernel) (by decide)
theorem kw_226 : Cond.instanceMethod y_B_back ∈ wAll := wAll_in (k := 226) (by decide +kernel) (by decide)
theorem kw_227 : Cond.selects "ClearingBooks" y_B_back y_B_back ∈ wAll := wAll_in (k := 227) (by decide +kernel) (by decide)
theorem kw_228 : Cond.code y_B_back prog_1_method_5_code 5 (some .long) ∈ wAll := wAll_in (k := 228) (by rfl) (by decide)
theorem kw_229 : Cond.constantLong "ClearingBooks" 67 (-1000000000000 : Int64) ∈ wAll := wAll_in (k := 229) (by decide +kernel) (by decide)
theorem kw_230 : Cond.methodLink "ClearingBooksLaw" 67 y_L_reconcile ∈ wAll := wAll_in (k := 230) (by decide +kernel) (by decide)
theorem kw_231 : Cond.static y_L_reconcile ∈ wAll := wAll_in (k := 231) (by decide +kernel) (by decide)
theorem kw_232 : Cond.codeWith y_L_reconcile method_7_code 7 (some .int) [(0, 19, 22, 13)] ∈ wAll := wAll_in (k := 232) (by rfl) (by decide)
theorem kw_233 : Cond.methodLink "ClearingBooksLaw" 27 y_B_reconcile ∈ wAll := wAll_in (k := 233) (by decide +kernel) (by decide)
theorem kw_234 : Cond.instanceMethod y_B_reconcile ∈ wAll := wAll_in (k := 234) (by decide +kernel) (by decide)
theorem kw_235 : Cond.selects "ClearingBooks" y_B_reconcile y_B_reconcile ∈ wAll := wAll_in (k := 235) (by decide +kernel) (by decide)
theorem kw_236 : Cond.code y_B_reconcile prog_1_method_6_code 5 (some .boolean) ∈ wAll := wAll_in (k := 236) (by rfl) (by decide)
theorem kw_237 : Cond.methodLink "ClearingBooksLaw" 70 y_L_batch ∈ wAll := wAll_in (k := 237) (by decide +kernel) (by decide)
theorem kw_238 : Cond.static y_L_batch ∈ wAll := wAll_in (k := 238) (by decide +kernel) (by decide)
theorem kw_239 : Cond.codeWith y_L_batch method_8_code 5 (some .int) [(0, 9, 12, 13)] ∈ wAll := wAll_in (k := 239) (by rfl) (by decide)
theorem kw_240 : Cond.methodLink "ClearingBooksLaw" 31 y_B_batch ∈ wAll := wAll_in (k := 240) (by decide +kernel) (by decide)
theorem kw_241 : Cond.instanceMethod y_B_batch ∈ wAll := wAll_in (k := 241) (by decide +kernel) (by decide)
theorem kw_242 : Cond.selects "ClearingBooks" y_B_batch y_B_batch ∈ wAll := wAll_in (k := 242) (by decide +kernel) (by decide)
theorem kw_243 : Cond.code y_B_batch prog_1_method_7_code 3 (some .long) ∈ wAll := wAll_in (k := 243) (by rfl) (by decide)
theorem kw_245 : Cond.methodLink "ClearingBooksLaw" 78 y_L_transfer ∈ wAll := wAll_in (k := 245) (by decide +kernel) (by decide)
theorem kw_246 : Cond.static y_L_transfer ∈ wAll := wAll_in (k := 246) (by decide +kernel) (by decide)
theorem kw_247 : Cond.codeWith y_L_transfer method_9_code 5 (some .int) [(0, 9, 12, 13)] ∈ wAll := wAll_in (k := 247) (by rfl) (by decide)
theorem kw_248 : Cond.methodLink "ClearingBooksLaw" 35 y_B_transfer ∈ wAll := wAll_in (k := 248) (by decide +kernel) (by decide)
theorem kw_249 : Cond.instanceMethod y_B_transfer ∈ wAll := wAll_in (k := 249) (by decide +kernel) (by decide)
theorem kw_250 : Cond.selects "ClearingBooks" y_B_transfer y_B_transfer ∈ wAll := wAll_in (k := 250) (by decide +kernel) (by decide)
theorem kw_251 : Cond.code y_B_transfer prog_1_method_9_code 3 (some .long) ∈ wAll := wAll_in (k := 251) (by rfl) (by decide)
theorem kw_254 : Cond.methodLink "ClearingBooksLaw" 81 y_L_party ∈ wAll := wAll_in (k := 254) (by decide +kernel) (by decide)
theorem kw_255 : Cond.static y_L_party ∈ wAll := wAll_in (k := 255) (by decide +kernel) (by decide)
theorem kw_256 : Cond.codeWith y_L_party method_10_code 5 (some .int) [(0, 9, 12, 13)] ∈ wAll := wAll_in (k := 256) (by rfl) (by decide)
theorem kw_257 : Cond.methodLink "ClearingBooksLaw" 38 y_B_party ∈ wAll := wAll_in (k := 257) (by decide +kernel) (by decide)
theorem kw_258 : Cond.instanceMethod y_B_party ∈ wAll := wAll_in (k := 258) (by decide +kernel) (by decide)
theorem kw_259 : Cond.selects "ClearingBooks" y_B_party y_B_party ∈ wAll := wAll_in (k := 259) (by decide +kernel) (by decide)
theorem kw_260 : Cond.code y_B_party prog_1_method_10_code 3 (some .long) ∈ wAll := wAll_in (k := 260) (by rfl) (by decide)
theorem kw_262 : Cond.methodLink "ClearingBooks" 89 y_B_placeOf ∈ wAll := wAll_in (k := 262) (by decide +kernel) (by decide)
theorem kw_264 : Cond.instanceMethod y_B_placeOf ∈ wAll := wAll_in (k := 264) (by decide +kernel) (by decide)
theorem kw_265 : Cond.code y_B_placeOf prog_1_method_23_code 5 (some .int) ∈ wAll := wAll_in (k := 265) (by rfl) (by decide)
theorem kw_267 : Cond.classLink "ClearingBooksLaw" 42 "ClearingBooksModel" ∈ wAll := wAll_in (k := 267) (by decide +kernel) (by decide)
theorem kw_268 : Cond.instantiable "ClearingBooksModel" 13 ∈ wAll := wAll_in (k := 268) (by decide +kernel) (by decide)
theorem kw_269 : Cond.methodLink "ClearingBooksLaw" 44 y_M_init ∈ wAll := wAll_in (k := 269) (by decide +kernel) (by decide)
theorem kw_270 : Cond.instanceMethod y_M_init ∈ wAll := wAll_in (k := 270) (by decide +kernel) (by decide)
theorem kw_271 : Cond.code y_M_init prog_3_method_1_code 1 none ∈ wAll := wAll_in (k := 271) (by rfl) (by decide)
theorem kw_272 : Cond.methodLink "ClearingBooksModel" 1 ⟨"java/lang/Object", "<init>", "()V"⟩ ∈ wAll := wAll_in (k := 272) (by decide +kernel) (by decide)
theorem kw_273 : Cond.fieldLink "ClearingBooksModel" 45 "ClearingBooksModel" "code" "I" ∈ wAll := wAll_in (k := 273) (by decide +kernel) (by decide)
theorem kw_274 : Cond.fieldLink "ClearingBooksModel" 7 "ClearingBooksModel" "parties" "I" ∈ wAll := wAll_in (k := 274) (by decide +kernel) (by decide)
theorem kw_275 : Cond.fieldLink "ClearingBooksModel" 13 "ClearingBooksModel" "kind" "[I" ∈ wAll := wAll_in (k := 275) (by decide +kernel) (by decide)
theorem kw_276 : Cond.fieldLink "ClearingBooksModel" 17 "ClearingBooksModel" "rate" "[I" ∈ wAll := wAll_in (k := 276) (by decide +kernel) (by decide)
theorem kw_277 : Cond.fieldLink "ClearingBooksModel" 20 "ClearingBooksModel" "position" "[J" ∈ wAll := wAll_in (k := 277) (by decide +kernel) (by decide)
theorem kw_278 : Cond.fieldLink "ClearingBooksModel" 24 "ClearingBooksModel" "settled" "[J" ∈ wAll := wAll_in (k := 278) (by decide +kernel) (by decide)
theorem kw_279 : Cond.fieldLink "ClearingBooksModel" 27 "ClearingBooksModel" "count" "[I" ∈ wAll := wAll_in (k := 279) (by decide +kernel) (by decide)
theorem kw_280 : Cond.fieldLink "ClearingBooksModel" 30 "ClearingBooksModel" "sum" "[J" ∈ wAll := wAll_in (k := 280) (by decide +kernel) (by decide)
theorem kw_281 : Cond.fieldLink "ClearingBooksModel" 33 "ClearingBooksModel" "open" "[J" ∈ wAll := wAll_in (k := 281) (by decide +kernel) (by decide)
theorem kw_282 : Cond.fieldLink "ClearingBooksModel" 66 "ClearingBooksModel" "transfers" "I" ∈ wAll := wAll_in (k := 282) (by decide +kernel) (by decide)
theorem kw_283 : Cond.fieldLink "ClearingBooksModel" 36 "ClearingBooksModel" "payer" "[I" ∈ wAll := wAll_in (k := 283) (by decide +kernel) (by decide)
theorem kw_284 : Cond.fieldLink "ClearingBooksModel" 39 "ClearingBooksModel" "payee" "[I" ∈ wAll := wAll_in (k := 284) (by decide +kernel) (by decide)
theorem kw_285 : Cond.fieldLink "ClearingBooksModel" 42 "ClearingBooksModel" "paid" "[J" ∈ wAll := wAll_in (k := 285) (by decide +kernel) (by decide)
theorem kw_286 : Cond.lays "ClearingBooksModel" "ClearingBooksModel" "code" "I" ∈ wAll := wAll_in (k := 286) (by decide +kernel) (by decide)
theorem kw_288 : Cond.lays "ClearingBooksModel" "ClearingBooksModel" "parties" "I" ∈ wAll := wAll_in (k := 288) (by decide +kernel) (by decide)
theorem kw_290 : Cond.laysFinal "ClearingBooksModel" "ClearingBooksModel" "kind" "[I" ∈ wAll := wAll_in (k := 290) (by decide +kernel) (by decide)
theorem kw_292 : Cond.laysFinal "ClearingBooksModel" "ClearingBooksModel" "rate" "[I" ∈ wAll := wAll_in (k := 292) (by decide +kernel) (by decide)
theorem kw_294 : Cond.laysFinal "ClearingBooksModel" "ClearingBooksModel" "position" "[J" ∈ wAll := wAll_in (k := 294) (by decide +kernel) (by decide)
theorem kw_296 : Cond.laysFinal "ClearingBooksModel" "ClearingBooksModel" "settled" "[J" ∈ wAll := wAll_in (k := 296) (by decide +kernel) (by decide)
theorem kw_298 : Cond.laysFinal "ClearingBooksModel" "ClearingBooksModel" "count" "[I" ∈ wAll := wAll_in (k := 298) (by decide +kernel) (by decide)
theorem kw_300 : Cond.laysFinal "ClearingBooksModel" "ClearingBooksModel" "sum" "[J" ∈ wAll := wAll_in (k := 300) (by decide +kernel) (by decide)
theorem kw_302 : Cond.laysFinal "ClearingBooksModel" "ClearingBooksModel" "open" "[J" ∈ wAll := wAll_in (k := 302) (by decide +kernel) (by decide)
theorem kw_304 : Cond.lays "ClearingBooksModel" "ClearingBooksModel" "transfers" "I" ∈ wAll := wAll_in (k := 304) (by decide +kernel) (by decide)
theorem kw_306 : Cond.laysFinal "ClearingBooksModel" "ClearingBooksModel" "payer" "[I" ∈ wAll := wAll_in (k := 306) (by decide +kernel) (by decide)
theorem kw_308 : Cond.laysFinal "ClearingBooksModel" "ClearingBooksModel" "payee" "[I" ∈ wAll := wAll_in (k := 308) (by decide +kernel) (by decide)
theorem kw_310 : Cond.laysFinal "ClearingBooksModel" "ClearingBooksModel" "paid" "[J" ∈ wAll := wAll_in (k := 310) (by decide +kernel) (by decide)
theorem kw_312 : Cond.superclass "ClearingBooksModel" "java/lang/Object" ∈ wAll := wAll_in (k := 312) (by decide +kernel) (by decide)
theorem kw_313 : Cond.methodLink "ClearingBooksLaw" 51 y_M_thrown ∈ wAll := wAll_in (k := 313) (by decide +kernel) (by decide)
theorem kw_314 : Cond.instanceMethod y_M_thrown ∈ wAll := wAll_in (k := 314) (by decide +kernel) (by decide)
theorem kw_315 : Cond.selects "ClearingBooksModel" y_M_thrown y_M_thrown ∈ wAll := wAll_in (k := 315) (by decide +kernel) (by decide)
theorem kw_316 : Cond.code y_M_thrown prog_3_method_2_code 1 (some .int) ∈ wAll := wAll_in (k := 316) (by rfl) (by decide)
theorem kw_317 : Cond.methodLink "ClearingBooksLaw" 50 y_M_acquirer ∈ wAll := wAll_in (k := 317) (by decide +kernel) (by decide)
theorem kw_318 : Cond.instanceMethod y_M_acquirer ∈ wAll := wAll_in (k := 318) (by decide +kernel) (by decide)
theorem kw_319 : Cond.selects "ClearingBooksModel" y_M_acquirer y_M_acquirer ∈ wAll := wAll_in (k := 319) (by decide +kernel) (by decide)
theorem kw_320 : Cond.code y_M_acquirer prog_3_method_6_code 2 (some .int) ∈ wAll := wAll_in (k := 320) (by rfl) (by decide)
theorem kw_321 : Cond.methodLink "ClearingBooksModel" 48 y_M_come ∈ wAll := wAll_in (k := 321) (by decide +kernel) (by decide)
theorem kw_323 : Cond.instanceMethod y_M_come ∈ wAll := wAll_in (k := 323) (by decide +kernel) (by decide)
theorem kw_324 : Cond.code y_M_come prog_3_method_5_code 3 (some .int) ∈ wAll := wAll_in (k := 324) (by rfl) (by decide)
theorem kw_325 : Cond.methodLink "ClearingBooksLaw" 57 y_M_issuer ∈ wAll := wAll_in (k := 325) (by decide +kernel) (by decide)
theorem kw_326 : Cond.instanceMethod y_M_issuer ∈ wAll := wAll_in (k := 326) (by decide +kernel) (by decide)
theorem kw_327 : Cond.selects "ClearingBooksModel" y_M_issuer y_M_issuer ∈ wAll := wAll_in (k := 327) (by decide +kernel) (by decide)
theorem kw_328 : Cond.code y_M_issuer prog_3_method_7_code 2 (some .int) ∈ wAll := wAll_in (k := 328) (by rfl) (by decide)
theorem kw_329 : Cond.methodLink "ClearingBooksLaw" 63 y_M_clear ∈ wAll := wAll_in (k := 329) (by decide +kernel) (by decide)
theorem kw_330 : Cond.instanceMethod y_M_clear ∈ wAll := wAll_in (k := 330) (by decide +kernel) (by decide)
theorem kw_331 : Cond.selects "ClearingBooksModel" y_M_clear y_M_clear ∈ wAll := wAll_in (k := 331) (by decide +kernel) (by decide)
theorem kw_332 : Cond.code y_M_clear prog_3_method_8_code 11 (some .long) ∈ wAll := wAll_in (k := 332) (by rfl) (by decide)
theorem kw_333 : Cond.methodLink "ClearingBooksModel" 52 y_M_is ∈ wAll := wAll_in (k := 333) (by decide +kernel) (by decide)
theorem kw_335 : Cond.instanceMethod y_M_is ∈ wAll := wAll_in (k := 335) (by decide +kernel) (by decide)
theorem kw_336 : Cond.code y_M_is prog_3_method_4_code 3 (some .boolean) ∈ wAll := wAll_in (k := 336) (by rfl) (by decide)
theorem kw_337 : Cond.constantLong "ClearingBooksModel" 56 (1000000000000 : Int64) ∈ wAll := wAll_in (k := 337) (by decide +kernel) (by decide)
theorem kw_338 : Cond.methodLink "ClearingBooksModel" 58 y_M_goes ∈ wAll := wAll_in (k := 338) (by decide +kernel) (by decide)
theorem kw_340 : Cond.instanceMethod y_M_goes ∈ wAll := wAll_in (k := 340) (by decide +kernel) (by decide)
theorem kw_341 : Cond.code y_M_goes prog_3_method_3_code 2 (some .boolean) ∈ wAll := wAll_in (k := 341) (by rfl) (by decide)
theorem kw_342 : Cond.constantLong "ClearingBooksModel" 62 (10000 : Int64) ∈ wAll := wAll_in (k := 342) (by decide +kernel) (by decide)
theorem kw_343 : Cond.methodLink "ClearingBooksLaw" 66 y_M_back ∈ wAll := wAll_in (k := 343) (by decide +kernel) (by decide)
theorem kw_344 : Cond.instanceMethod y_M_back ∈ wAll := wAll_in (k := 344) (by decide +kernel) (by decide)
theorem kw_345 : Cond.selects "ClearingBooksModel" y_M_back y_M_back ∈ wAll := wAll_in (k := 345) (by decide +kernel) (by decide)
theorem kw_346 : Cond.code y_M_back prog_3_method_9_code 5 (some .long) ∈ wAll := wAll_in (k := 346) (by rfl) (by decide)
theorem kw_347 : Cond.constantLong "ClearingBooksModel" 64 (-1000000000000 : Int64) ∈ wAll := wAll_in (k := 347) (by decide +kernel) (by decide)
theorem kw_348 : Cond.methodLink "ClearingBooksLaw" 69 y_M_reconcile ∈ wAll := wAll_in (k := 348) (by decide +kernel) (by decide)
theorem kw_349 : Cond.instanceMethod y_M_reconcile ∈ wAll := wAll_in (k := 349) (by decide +kernel) (by decide)
theorem kw_350 : Cond.selects "ClearingBooksModel" y_M_reconcile y_M_reconcile ∈ wAll := wAll_in (k := 350) (by decide +kernel) (by decide)
theorem kw_351 : Cond.code y_M_reconcile prog_3_method_10_code 5 (some .boolean) ∈ wAll := wAll_in (k := 351) (by rfl) (by decide)
theorem kw_352 : Cond.methodLink "ClearingBooksLaw" 73 y_M_batch ∈ wAll := wAll_in (k := 352) (by decide +kernel) (by decide)
theorem kw_353 : Cond.instanceMethod y_M_batch ∈ wAll := wAll_in (k := 353) (by decide +kernel) (by decide)
theorem kw_354 : Cond.selects "ClearingBooksModel" y_M_batch y_M_batch ∈ wAll := wAll_in (k := 354) (by decide +kernel) (by decide)
theorem kw_355 : Cond.code y_M_batch prog_3_method_11_code 3 (some .long) ∈ wAll := wAll_in (k := 355) (by rfl) (by decide)
theorem kw_356 : Cond.methodLink "ClearingBooksLaw" 77 y_M_settle ∈ wAll := wAll_in (k := 356) (by decide +kernel) (by decide)
theorem kw_357 : Cond.instanceMethod y_M_settle ∈ wAll := wAll_in (k := 357) (by decide +kernel) (by decide)
theorem kw_358 : Cond.selects "ClearingBooksModel" y_M_settle y_M_settle ∈ wAll := wAll_in (k := 358) (by decide +kernel) (by decide)
theorem kw_359 : Cond.code y_M_settle prog_3_method_12_code 6 (some .int) ∈ wAll := wAll_in (k := 359) (by rfl) (by decide)
theorem kw_360 : Cond.methodLink "ClearingBooksLaw" 80 y_M_transfer ∈ wAll := wAll_in (k := 360) (by decide +kernel) (by decide)
theorem kw_361 : Cond.instanceMethod y_M_transfer ∈ wAll := wAll_in (k := 361) (by decide +kernel) (by decide)
theorem kw_362 : Cond.selects "ClearingBooksModel" y_M_transfer y_M_transfer ∈ wAll := wAll_in (k := 362) (by decide +kernel) (by decide)
theorem kw_363 : Cond.code y_M_transfer prog_3_method_13_code 3 (some .long) ∈ wAll := wAll_in (k := 363) (by rfl) (by decide)
theorem kw_364 : Cond.methodLink "ClearingBooksLaw" 83 y_M_party ∈ wAll := wAll_in (k := 364) (by decide +kernel) (by decide)
theorem kw_365 : Cond.instanceMethod y_M_party ∈ wAll := wAll_in (k := 365) (by decide +kernel) (by decide)
theorem kw_366 : Cond.selects "ClearingBooksModel" y_M_party y_M_party ∈ wAll := wAll_in (k := 366) (by decide +kernel) (by decide)
theorem kw_367 : Cond.code y_M_party prog_3_method_14_code 5 (some .long) ∈ wAll := wAll_in (k := 367) (by rfl) (by decide)
theorem kw_368 : Cond.methodLink "ClearingBooksLaw" 87 y_M_parties ∈ wAll := wAll_in (k := 368) (by decide +kernel) (by decide)
theorem kw_369 : Cond.instanceMethod y_M_parties ∈ wAll := wAll_in (k := 369) (by decide +kernel) (by decide)
theorem kw_370 : Cond.selects "ClearingBooksModel" y_M_parties y_M_parties ∈ wAll := wAll_in (k := 370) (by decide +kernel) (by decide)
theorem kw_371 : Cond.code y_M_parties prog_3_method_15_code 1 (some .int) ∈ wAll := wAll_in (k := 371) (by rfl) (by decide)
theorem kw_372 : Cond.methodLink "ClearingBooksLaw" 91 y_M_audit ∈ wAll := wAll_in (k := 372) (by decide +kernel) (by decide)
theorem kw_373 : Cond.instanceMethod y_M_audit ∈ wAll := wAll_in (k := 373) (by decide +kernel) (by decide)
theorem kw_374 : Cond.selects "ClearingBooksModel" y_M_audit y_M_audit ∈ wAll := wAll_in (k := 374) (by decide +kernel) (by decide)
theorem kw_375 : Cond.code y_M_audit prog_3_method_16_code 1 (some .int) ∈ wAll := wAll_in (k := 375) (by rfl) (by decide)
theorem kw_376 : Cond.constantLong "ClearingBooksLaw" 58 (4294967295 : Int64) ∈ wAll := wAll_in (k := 376) (by decide +kernel) (by decide)
theorem ks_0 : Cond.selects "ClearingBooks" y_B_makeTransfers y_B_makeTransfers ∈ wAll := wAll_sel (k := 0) (by decide +kernel) (by decide)
theorem ks_1 : Cond.selects "ClearingBooks" y_B_leastOpen y_B_leastOpen ∈ wAll := wAll_sel (k := 1) (by decide +kernel) (by decide)
theorem ks_2 : Cond.selects "ClearingBooks" y_B_greatestOpen y_B_greatestOpen ∈ wAll := wAll_sel (k := 2) (by decide +kernel) (by decide)
theorem ks_3 : Cond.selects "ClearingBooks" y_B_makeTransfer y_B_makeTransfer ∈ wAll := wAll_sel (k := 3) (by decide +kernel) (by decide)
theorem ks_4 : Cond.selects "ClearingBooks" y_B_sumOf y_B_sumOf ∈ wAll := wAll_sel (k := 4) (by decide +kernel) (by decide)
theorem ks_5 : Cond.selects "ClearingBooks" y_B_enter y_B_enter ∈ wAll := wAll_sel (k := 5) (by decide +kernel) (by decide)
theorem ks_6 : Cond.selects "java/lang/Throwable" ⟨"java/lang/Throwable", "fillInStackTrace", "(I)Ljava/lang/Throwable;"⟩ ⟨"java/lang/Throwable", "fillInStackTrace", "(I)Ljava/lang/Throwable;"⟩ ∈ wAll := wAll_sel (k := 6) (by decide +kernel) (by decide)
theorem ks_7 : Cond.selects "ClearingBooks" y_B_requireKind y_B_requireKind ∈ wAll := wAll_sel (k := 7) (by decide +kernel) (by decide)
theorem ks_8 : Cond.selects "ClearingBooks" y_B_isParty y_B_isParty ∈ wAll := wAll_sel (k := 8) (by decide +kernel) (by decide)
theorem ks_9 : Cond.selects "ClearingBooks" y_B_placeOf y_B_placeOf ∈ wAll := wAll_sel (k := 9) (by decide +kernel) (by decide)
theorem ks_10 : Cond.selects "ClearingBooksModel" y_M_come y_M_come ∈ wAll := wAll_sel (k := 10) (by decide +kernel) (by decide)
theorem ks_11 : Cond.selects "ClearingBooksModel" y_M_is y_M_is ∈ wAll := wAll_sel (k := 11) (by decide +kernel) (by decide)
theorem ks_12 : Cond.selects "ClearingBooksModel" y_M_goes y_M_goes ∈ wAll := wAll_sel (k := 12) (by decide +kernel) (by decide)
theorem wi_B : ∀ w ∈ u_ws "ClearingBooks" T_B 12, w ∈ wAll := by
  intro w hw
  obtain ⟨k, hk, rfl⟩ := u_mem hw
  match k, hk with
  | 0, _ => exact kw_29
  | 1, _ => exact kw_31
  | 2, _ => exact kw_33
  | 3, _ => exact kw_35
  | 4, _ => exact kw_37
  | 5, _ => exact kw_39
  | 6, _ => exact kw_41
  | 7, _ => exact kw_43
  | 8, _ => exact kw_45
  | 9, _ => exact kw_47
  | 10, _ => exact kw_49
  | 11, _ => exact kw_51
  | k + 12, h => exact absurd h (by omega)
theorem wi_M : ∀ w ∈ u_ws "ClearingBooksModel" T_M 13, w ∈ wAll := by
  intro w hw
  obtain ⟨k, hk, rfl⟩ := u_mem hw
  match k, hk with
  | 0, _ => exact kw_286
  | 1, _ => exact kw_288
  | 2, _ => exact kw_290
  | 3, _ => exact kw_292
  | 4, _ => exact kw_294
  | 5, _ => exact kw_296
  | 6, _ => exact kw_298
  | 7, _ => exact kw_300
  | 8, _ => exact kw_302
  | 9, _ => exact kw_304
  | 10, _ => exact kw_306
  | 11, _ => exact kw_308
  | 12, _ => exact kw_310
  | k + 13, h => exact absurd h (by omega)
def cb_ks : List (Nat × String) := [(99, "a fee or share is not 0 to 1000"), (103, "there are 15 parties"), (106, "no such party of this kind"), (110, "an amount is out of its bounds"), (71, "what is not 0 or 1"), (79, "no such transfer"), (81, "what is not 0 to 2"), (87, "no such party"), (93, "what is not 0 to 4")]
theorem at_iae : ∀ w ∈ Bundle.ownAtoms "ClearingBooks" 73 "java/lang/IllegalArgumentException" ["java/lang/RuntimeException", "java/lang/Exception"], w ∈ xc_w ∨ w ∈ xc_f ∨ w ∈ wAll :=
  List.forall_mem_cons.mpr ⟨Or.inr (Or.inr kw_3), List.forall_mem_cons.mpr ⟨Or.inr (Or.inr kw_126), List.forall_mem_cons.mpr ⟨Or.inr (Or.inr kw_135), List.forall_mem_cons.mpr ⟨Or.inr (Or.inr kw_138), List.forall_mem_cons.mpr ⟨Or.inr (Or.inr kw_141), List.forall_mem_cons.mpr ⟨Or.inr (Or.inr kw_143), List.forall_mem_cons.mpr ⟨Or.inr (Or.inr kw_127), List.forall_mem_cons.mpr ⟨Or.inr (Or.inr kw_128), List.forall_mem_cons.mpr ⟨Or.inr (Or.inr kw_15), List.forall_mem_cons.mpr ⟨Or.inr (Or.inr kw_16), List.forall_mem_cons.mpr ⟨Or.inr (Or.inr kw_129), List.forall_mem_cons.mpr ⟨Or.inr (Or.inr kw_134), List.forall_mem_cons.mpr ⟨Or.inr (Or.inr kw_139), List.forall_mem_cons.mpr ⟨Or.inr (Or.inr kw_159), List.forall_mem_cons.mpr ⟨Or.inr (Or.inr kw_116), List.forall_mem_cons.mpr ⟨Or.inr (Or.inr kw_160), List.forall_mem_cons.mpr ⟨Or.inr (Or.inr kw_118), List.forall_mem_cons.mpr ⟨Or.inr (Or.inr kw_161), List.forall_mem_cons.mpr ⟨Or.inr (Or.inr kw_120), List.forall_mem_cons.mpr ⟨Or.inr (Or.inr kw_130), List.forall_mem_cons.mpr ⟨Or.inl (List.mem_of_getElem? (i := 0) rfl), List.forall_mem_cons.mpr ⟨Or.inr (Or.inr kw_132), List.forall_mem_cons.mpr ⟨Or.inl (List.mem_of_getElem? (i := 1) rfl), List.forall_mem_cons.mpr ⟨Or.inr (Or.inr kw_122), List.forall_mem_cons.mpr ⟨Or.inr (Or.inr kw_155), List.forall_mem_cons.mpr ⟨Or.inr (Or.inr kw_156), List.forall_mem_cons.mpr ⟨Or.inr (Or.inr kw_158), List.forall_mem_cons.mpr ⟨Or.inr (Or.inr kw_122), List.forall_mem_cons.mpr ⟨Or.inr (Or.inr kw_146), List.forall_mem_cons.mpr ⟨Or.inr (Or.inr kw_147), List.forall_mem_cons.mpr ⟨Or.inr (Or.inr kw_148), List.forall_mem_cons.mpr ⟨Or.inr (Or.inr kw_149), List.forall_mem_cons.mpr ⟨Or.inr (Or.inl (List.mem_of_getElem? (i := 2) rfl)), List.forall_mem_cons.mpr ⟨Or.inr (Or.inr kw_149), List.forall_mem_cons.mpr ⟨Or.inr (Or.inr kw_150), List.forall_mem_cons.mpr ⟨Or.inr (Or.inr kw_151), List.forall_mem_cons.mpr ⟨Or.inr (Or.inr kw_152), List.forall_mem_cons.mpr ⟨Or.inr (Or.inl (List.mem_of_getElem? (i := 3) rfl)), List.forall_mem_cons.mpr ⟨Or.inr (Or.inr kw_152), List.forall_mem_cons.mpr ⟨Or.inr (Or.inr kw_153), List.forall_mem_cons.mpr ⟨Or.inr (Or.inr kw_154), List.forall_mem_cons.mpr ⟨Or.inr (Or.inr kw_155), List.forall_mem_cons.mpr ⟨Or.inr (Or.inl (List.mem_of_getElem? (i := 4) rfl)), List.forall_mem_cons.mpr ⟨Or.inr (Or.inr kw_145), List.forall_mem_cons.mpr ⟨Or.inr (Or.inr kw_105), List.forall_mem_cons.mpr ⟨Or.inr (Or.inl (List.mem_of_getElem? (i := 0) rfl)), List.forall_mem_cons.mpr ⟨Or.inr (Or.inr kw_113), List.forall_mem_cons.mpr ⟨Or.inr (Or.inr kw_114), List.forall_mem_cons.mpr ⟨Or.inr (Or.inr kw_115), List.forall_mem_cons.mpr ⟨Or.inr (Or.inr kw_117), List.forall_mem_cons.mpr ⟨Or.inr (Or.inr kw_119), List.forall_mem_cons.mpr ⟨Or.inr (Or.inr kw_121), List.forall_mem_cons.mpr ⟨Or.inl (List.mem_of_getElem? (i := 2) rfl), List.forall_mem_cons.mpr ⟨Or.inl (List.mem_of_getElem? (i := 3) rfl), List.forall_mem_cons.mpr ⟨Or.inr (Or.inr kw_157), List.forall_mem_cons.mpr ⟨Or.inr (Or.inr kw_124), List.forall_mem_cons.mpr ⟨Or.inr (Or.inr kw_123), fun _ h => absurd h List.not_mem_nil⟩⟩⟩⟩⟩⟩⟩⟩⟩⟩⟩⟩⟩⟩⟩⟩⟩⟩⟩⟩⟩⟩⟩⟩⟩⟩⟩⟩⟩⟩⟩⟩⟩⟩⟩⟩⟩⟩⟩⟩⟩⟩⟩⟩⟩⟩⟩⟩⟩⟩⟩⟩⟩⟩⟩⟩⟩
theorem at_ise : ∀ w ∈ Bundle.ownAtoms "ClearingBooks" 105 "java/lang/IllegalStateException" ["java/lang/RuntimeException", "java/lang/Exception"], w ∈ xc_w ∨ w ∈ xc_f ∨ w ∈ wAll :=
  List.forall_mem_cons.mpr ⟨Or.inr (Or.inr kw_3), List.forall_mem_cons.mpr ⟨Or.inr (Or.inr kw_126), List.forall_mem_cons.mpr ⟨Or.inr (Or.inr kw_135), List.forall_mem_cons.mpr ⟨Or.inr (Or.inr kw_138), List.forall_mem_cons.mpr ⟨Or.inr (Or.inr kw_141), List.forall_mem_cons.mpr ⟨Or.inr (Or.inr kw_143), List.forall_mem_cons.mpr ⟨Or.inr (Or.inr kw_127), List.forall_mem_cons.mpr ⟨Or.inr (Or.inr kw_128), List.forall_mem_cons.mpr ⟨Or.inr (Or.inr kw_15), List.forall_mem_cons.mpr ⟨Or.inr (Or.inr kw_16), List.forall_mem_cons.mpr ⟨Or.inr (Or.inr kw_129), List.forall_mem_cons.mpr ⟨Or.inr (Or.inr kw_134), List.forall_mem_cons.mpr ⟨Or.inr (Or.inr kw_139), List.forall_mem_cons.mpr ⟨Or.inr (Or.inr kw_159), List.forall_mem_cons.mpr ⟨Or.inr (Or.inr kw_116), List.forall_mem_cons.mpr ⟨Or.inr (Or.inr kw_160), List.forall_mem_cons.mpr ⟨Or.inr (Or.inr kw_118), List.forall_mem_cons.mpr ⟨Or.inr (Or.inr kw_161), List.forall_mem_cons.mpr ⟨Or.inr (Or.inr kw_120), List.forall_mem_cons.mpr ⟨Or.inr (Or.inr kw_130), List.forall_mem_cons.mpr ⟨Or.inl (List.mem_of_getElem? (i := 0) rfl), List.forall_mem_cons.mpr ⟨Or.inr (Or.inr kw_132), List.forall_mem_cons.mpr ⟨Or.inl (List.mem_of_getElem? (i := 1) rfl), List.forall_mem_cons.mpr ⟨Or.inr (Or.inr kw_122), List.forall_mem_cons.mpr ⟨Or.inr (Or.inr kw_155), List.forall_mem_cons.mpr ⟨Or.inr (Or.inr kw_156), List.forall_mem_cons.mpr ⟨Or.inr (Or.inr kw_158), List.forall_mem_cons.mpr ⟨Or.inr (Or.inr kw_122), List.forall_mem_cons.mpr ⟨Or.inr (Or.inr kw_182), List.forall_mem_cons.mpr ⟨Or.inr (Or.inr kw_183), List.forall_mem_cons.mpr ⟨Or.inr (Or.inr kw_184), List.forall_mem_cons.mpr ⟨Or.inr (Or.inr kw_149), List.forall_mem_cons.mpr ⟨Or.inr (Or.inl (List.mem_of_getElem? (i := 2) rfl)), List.forall_mem_cons.mpr ⟨Or.inr (Or.inr kw_149), List.forall_mem_cons.mpr ⟨Or.inr (Or.inr kw_150), List.forall_mem_cons.mpr ⟨Or.inr (Or.inr kw_151), List.forall_mem_cons.mpr ⟨Or.inr (Or.inr kw_152), List.forall_mem_cons.mpr ⟨Or.inr (Or.inl (List.mem_of_getElem? (i := 3) rfl)), List.forall_mem_cons.mpr ⟨Or.inr (Or.inr kw_152), List.forall_mem_cons.mpr ⟨Or.inr (Or.inr kw_153), List.forall_mem_cons.mpr ⟨Or.inr (Or.inr kw_154), List.forall_mem_cons.mpr ⟨Or.inr (Or.inr kw_155), List.forall_mem_cons.mpr ⟨Or.inr (Or.inl (List.mem_of_getElem? (i := 4) rfl)), List.forall_mem_cons.mpr ⟨Or.inr (Or.inr kw_181), List.forall_mem_cons.mpr ⟨Or.inr (Or.inr kw_172), List.forall_mem_cons.mpr ⟨Or.inr (Or.inl (List.mem_of_getElem? (i := 1) rfl)), List.forall_mem_cons.mpr ⟨Or.inr (Or.inr kw_174), List.forall_mem_cons.mpr ⟨Or.inr (Or.inr kw_137), List.forall_mem_cons.mpr ⟨Or.inr (Or.inr kw_175), List.forall_mem_cons.mpr ⟨Or.inr (Or.inr kw_176), List.forall_mem_cons.mpr ⟨Or.inr (Or.inr kw_177), List.forall_mem_cons.mpr ⟨Or.inr (Or.inr kw_178), List.forall_mem_cons.mpr ⟨Or.inl (List.mem_of_getElem? (i := 2) rfl), List.forall_mem_cons.mpr ⟨Or.inl (List.mem_of_getElem? (i := 3) rfl), List.forall_mem_cons.mpr ⟨Or.inr (Or.inr kw_157), List.forall_mem_cons.mpr ⟨Or.inr (Or.inr kw_124), List.forall_mem_cons.mpr ⟨Or.inr (Or.inr kw_179), fun _ h => absurd h List.not_mem_nil⟩⟩⟩⟩⟩⟩⟩⟩⟩⟩⟩⟩⟩⟩⟩⟩⟩⟩⟩⟩⟩⟩⟩⟩⟩⟩⟩⟩⟩⟩⟩⟩⟩⟩⟩⟩⟩⟩⟩⟩⟩⟩⟩⟩⟩⟩⟩⟩⟩⟩⟩⟩⟩⟩⟩⟩⟩
end
section
/-! the numbers behind the class: pure functions, shaped as the code is -/
section XP
/-- the first place of the least of f 0 .. f i -/
def am (f : Nat → Int64) : Nat → Nat
  | 0 => 0
  | i + 1 => if f (am f i) ≤ f (i + 1) then am f i else i + 1
/-- the first place of the greatest -/
def ax (f : Nat → Int64) : Nat → Nat
  | 0 => 0
  | i + 1 => if f (i + 1) ≤ f (ax f i) then ax f i else i + 1
def sm (f : Nat → Int64) : Nat → Int64
  | 0 => 0
  | i + 1 => sm f i + f i
def pl (f : Nat → Int64) (j : Nat) : Nat → Nat
  | 0 => 0
  | i + 1 => if f j < f i ∨ (f i = f j ∧ i < j) then pl f j i + 1 else pl f j i
theorem am_le (f : Nat → Int64) : ∀ i, am f i ≤ i
  | 0 => Nat.le_refl _
  | i + 1 => by
    have h := am_le f i
    unfold am
    split <;> omega
theorem ax_le (f : Nat → Int64) : ∀ i, ax f i ≤ i
  | 0 => Nat.le_refl _
  | i + 1 => by
    have h := ax_le f i
    unfold ax
    split <;> omega
theorem pl_le (f : Nat → Int64) (j : Nat) : ∀ i, pl f j i ≤ i
  | 0 => Nat.le_refl _
  | i + 1 => by
    have h := pl_le f j i
    unfold pl
    split <;> omega
theorem am_y {f : Nat → Int64} {i : Nat} (h : f (am f i) ≤ f (i + 1)) : am f (i + 1) = am f i := by rw [am, if_pos h]
theorem am_n {f : Nat → Int64} {i : Nat} (h : ¬ f (am f i) ≤ f (i + 1)) : am f (i + 1) = i + 1 := by rw [am, if_neg h]
theorem ax_y {f : Nat → Int64} {i : Nat} (h : f (i + 1) ≤ f (ax f i)) : ax f (i + 1) = ax f i := by rw [ax, if_pos h]
theorem ax_n {f : Nat → Int64} {i : Nat} (h : ¬ f (i + 1) ≤ f (ax f i)) : ax f (i + 1) = i + 1 := by rw [ax, if_neg h]
theorem pl_y {f : Nat → Int64} {j i : Nat} (h : f j < f i ∨ (f i = f j ∧ i < j)) : pl f j (i + 1) = pl f j i + 1 := by rw [pl, if_pos h]
theorem pl_n {f : Nat → Int64} {j i : Nat} (h : ¬ (f j < f i ∨ (f i = f j ∧ i < j))) : pl f j (i + 1) = pl f j i := by rw [pl, if_neg h]
/-- below i the one, from i on the other -/
def cpy {α : Type} (i : Nat) (a b : Nat → α) : Nat → α := fun q => if q < i then a q else b q
theorem cpy_0 {α : Type} (a b : Nat → α) : cpy 0 a b = b := by funext q; simp [cpy]
theorem cpy_at {α : Type} (i : Nat) (a b : Nat → α) : cpy i a b i = b i := by simp [cpy]
theorem cpy_up {i : Nat} {a b : Nat → Int64} {v : Int64} (h : v = a i) : vp_updL (cpy i a b) i v = cpy (i + 1) a b := by
  funext q
  subst h
  by_cases h1 : q = i
  · subst h1; simp [vp_updL, cpy]
  · by_cases h2 : q < i
    · have h3 : q < i + 1 := by omega
      simp [vp_updL, cpy, h1, h2, h3]
    · have h3 : ¬ q < i + 1 := by omega
      simp [vp_updL, cpy, h1, h2, h3]
/-- transfers: how many; what is open; who pays; whom; how much -/
abbrev TT : Type := Nat × (Nat → Int64) × (Nat → Int32) × (Nat → Int32) × (Nat → Int64)
def pay (f : Nat → Int64) (i j : Nat) : Int64 := if f j < -f i then f j else -f i
def aft (f : Nat → Int64) (i j : Nat) : Nat → Int64 := vp_updL (vp_updL f i (f i + pay f i j)) j (vp_updL f i (f i + pay f i j) j - pay f i j)
def tr1 (n : Nat) (t : TT) : TT := (t.1 + 1, aft t.2.1 (am t.2.1 (n - 1)) (ax t.2.1 (n - 1)), upd t.2.2.1 t.1 (nI (am t.2.1 (n - 1))), upd t.2.2.2.1 t.1 (nI (ax t.2.1 (n - 1))), vp_updL t.2.2.2.2 t.1 (pay t.2.1 (am t.2.1 (n - 1)) (ax t.2.1 (n - 1))))
def trs (n : Nat) : Nat → TT → TT
  | 0, t => t
  | k + 1, t => if 0 ≤ t.2.1 (am t.2.1 (n - 1)) then t else trs n k (tr1 n t)
def zz (x : Int64) (k : Nat) : Nat := if x = 0 then 0 else k
end XP
section XP2
def cgv (x : Int64) (k : Int32) : Int64 := (x * k.toInt64 + 10000 - 1) / 10000
def dnv (x : Int64) (k : Int32) : Int64 := x * k.toInt64 / 10000
/-- positions behind a clearing, behind a going back -/
def po_cl (po : Nat → Int64) (i j : Nat) (x cg dn : Int64) : Nat → Int64 :=
  vp_updL (vp_updL (vp_updL po i (po i + (x - cg))) j (vp_updL po i (po i + (x - cg)) j + (dn - x))) 0 (vp_updL (vp_updL po i (po i + (x - cg))) j (vp_updL po i (po i + (x - cg)) j + (dn - x)) 0 + (cg - dn))
def po_bk (po : Nat → Int64) (i j : Nat) (x : Int64) : Nat → Int64 := vp_updL (vp_updL po i (po i - x)) j (vp_updL po i (po i - x) j + x)
end XP2
end
section
/-! settling ends: with a sum of 0 every transfer leaves one fewer that is off 0 -/
section XN
def si (f : Nat → Int64) : Nat → Int
  | 0 => 0
  | i + 1 => si f i + (f i).toInt
def cz (f : Nat → Int64) : Nat → Nat
  | 0 => 0
  | i + 1 => cz f i + (if f i = 0 then 0 else 1)
theorem upL_s (f : Nat → Int64) (i : Nat) (v : Int64) : vp_updL f i v i = v := by simp [vp_updL]
theorem upL_n {f : Nat → Int64} {i q : Nat} {v : Int64} (h : q ≠ i) : vp_updL f i v q = f q := by simp [vp_updL, h]
theorem si_out {f : Nat → Int64} {i : Nat} {v : Int64} : ∀ n, n ≤ i → si (vp_updL f i v) n = si f n
  | 0, _ => rfl
  | n + 1, h => by
    have h1 := si_out (f := f) (i := i) (v := v) n (by omega)
    have h2 : vp_updL f i v n = f n := upL_n (by omega)
    show si (vp_updL f i v) n + _ = si f n + _
    rw [h1, h2]
theorem si_up {f : Nat → Int64} {i : Nat} {v : Int64} : ∀ n, i < n → si (vp_updL f i v) n = si f n + (v.toInt - (f i).toInt)
  | 0, h => absurd h (by omega)
  | n + 1, h => by
    show si (vp_updL f i v) n + (vp_updL f i v n).toInt = si f n + (f n).toInt + _
    by_cases h1 : i = n
    · subst h1
      rw [si_out i (Nat.le_refl i), upL_s]
      omega
    · rw [si_up n (by omega), upL_n (by omega)]
      omega
theorem cz_out {f : Nat → Int64} {i : Nat} {v : Int64} : ∀ n, n ≤ i → cz (vp_updL f i v) n = cz f n
  | 0, _ => rfl
  | n + 1, h => by
    have h1 := cz_out (f := f) (i := i) (v := v) n (by omega)
    have h2 : vp_updL f i v n = f n := upL_n (by omega)
    show cz (vp_updL f i v) n + _ = cz f n + _
    rw [h1, h2]
theorem cz_up {f : Nat → Int64} {i : Nat} {v : Int64} : ∀ n, i < n → cz (vp_updL f i v) n + (if f i = 0 then 0 else 1) = cz f n + (if v = 0 then 0 else 1)
  | 0, h => absurd h (by omega)
  | n + 1, h => by
    show cz (vp_updL f i v) n + (if vp_updL f i v n = 0 then 0 else 1) + _ = cz f n + (if f n = 0 then 0 else 1) + _
    by_cases h1 : i = n
    · subst h1
      rw [cz_out i (Nat.le_refl i), upL_s]
      omega
    · have h2 := cz_up (f := f) (v := v) n (show i < n by omega)
      rw [upL_n (show n ≠ i by omega)]
      omega
theorem cz_le (f : Nat → Int64) : ∀ n, cz f n ≤ n
  | 0 => Nat.le_refl _
  | n + 1 => by
    have h := cz_le f n
    show cz f n + (if f n = 0 then 0 else 1) ≤ n + 1
    split <;> omega
theorem cz_0 {f : Nat → Int64} : ∀ n, cz f n = 0 → si f n = 0 ∧ ∀ q, q < n → f q = 0
  | 0, _ => ⟨rfl, fun q h => absurd h (by omega)⟩
  | n + 1, h => by
    have h' : cz f n + (if f n = 0 then 0 else 1) = 0 := h
    by_cases h1 : f n = 0
    · rw [if_pos h1] at h'
      obtain ⟨a, b⟩ := cz_0 n (by omega)
      refine ⟨by show si f n + _ = 0; rw [a, h1]; rfl, fun q hq => ?_⟩
      by_cases h2 : q = n
      · rw [h2]; exact h1
      · exact b q (by omega)
    · rw [if_neg h1] at h'
      omega
theorem cz_1 {f : Nat → Int64} : ∀ n, cz f n ≤ 1 → si f n = 0 → cz f n = 0
  | 0, _, _ => rfl
  | n + 1, h, hs => by
    have h' : cz f n + (if f n = 0 then 0 else 1) ≤ 1 := h
    have hs' : si f n + (f n).toInt = 0 := hs
    show cz f n + (if f n = 0 then 0 else 1) = 0
    by_cases h1 : f n = 0
    · rw [if_pos h1] at h' ⊢
      rw [h1] at hs'
      have := cz_1 n (by omega) (by simpa using hs')
      omega
    · rw [if_neg h1] at h'
      obtain ⟨a, -⟩ := cz_0 (f := f) n (by omega)
      rw [a] at hs'
      exact absurd (Int64.toInt_inj.mp (show (f n).toInt = (0 : Int64).toInt by rw [Int64.toInt_zero]; omega)) h1
theorem am_min (f : Nat → Int64) : ∀ i q, q ≤ i → (f (am f i)).toInt ≤ (f q).toInt
  | 0, q, h => by
    have : q = 0 := by omega
    subst this
    exact Int.le_refl _
  | i + 1, q, h => by
    by_cases h1 : f (am f i) ≤ f (i + 1)
    · rw [am_y h1]
      by_cases h2 : q = i + 1
      · rw [h2]; exact Int64.le_iff_toInt_le.mp h1
      · exact am_min f i q (by omega)
    · rw [am_n h1]
      have h3 := Int64.lt_iff_toInt_lt.mp (Int64.not_le.mp h1)
      by_cases h2 : q = i + 1
      · rw [h2]; exact Int.le_refl _
      · have := am_min f i q (by omega)
        omega
theorem ax_max (f : Nat → Int64) : ∀ i q, q ≤ i → (f q).toInt ≤ (f (ax f i)).toInt
  | 0, q, h => by
    have : q = 0 := by omega
    subst this
    exact Int.le_refl _
  | i + 1, q, h => by
    by_cases h1 : f (i + 1) ≤ f (ax f i)
    · rw [ax_y h1]
      by_cases h2 : q = i + 1
      · rw [h2]; exact Int64.le_iff_toInt_le.mp h1
      · exact ax_max f i q (by omega)
    · rw [ax_n h1]
      have h3 := Int64.lt_iff_toInt_lt.mp (Int64.not_le.mp h1)
      by_cases h2 : q = i + 1
      · rw [h2]; exact Int.le_refl _
      · have := ax_max f i q (by omega)
        omega
theorem si_np {f : Nat → Int64} : ∀ n, (∀ q, q < n → (f q).toInt ≤ 0) → si f n ≤ 0 ∧ ∀ q, q < n → si f n ≤ (f q).toInt
  | 0, _ => ⟨Int.le_refl _, fun q h => absurd h (by omega)⟩
  | n + 1, h => by
    obtain ⟨a, b⟩ := si_np (f := f) n (fun q hq => h q (by omega))
    have c := h n (by omega)
    refine ⟨by show si f n + _ ≤ 0; omega, fun q hq => ?_⟩
    show si f n + (f n).toInt ≤ _
    by_cases h2 : q = n
    · rw [h2]; omega
    · have := b q (by omega)
      omega
/-- bounds within which no sum of two wraps around -/
def sml (f : Nat → Int64) (n : Nat) : Prop := ∀ q, q < n → -4611686018427387904 ≤ (f q).toInt ∧ (f q).toInt ≤ 4611686018427387904
theorem neg_i {x : Int64} (h1 : -4611686018427387904 ≤ x.toInt) (h2 : x.toInt ≤ 4611686018427387904) : (-x).toInt = -x.toInt := by
  rw [Int64.toInt_neg]
  exact Jvm.Kit.bmod64 (by omega) (by omega)
theorem pay_i {f : Nat → Int64} {i j : Nat} (hi : -4611686018427387904 ≤ (f i).toInt ∧ (f i).toInt ≤ 4611686018427387904) : (pay f i j).toInt = (if (f j).toInt < -(f i).toInt then (f j).toInt else -(f i).toInt) := by
  unfold pay
  have e := neg_i hi.1 hi.2
  by_cases h : f j < -f i
  · have h' := Int64.lt_iff_toInt_lt.mp h
    rw [e] at h'
    rw [if_pos h, if_pos h']
  · have h' : ¬ (f j).toInt < -(f i).toInt := fun z => h (Int64.lt_iff_toInt_lt.mpr (by rw [e]; exact z))
    rw [if_neg h, if_neg h', e]
/-- one transfer -/
theorem tr_step {f : Nat → Int64} {n : Nat} (h1 : 1 ≤ n) (hs : si f n = 0) (hb : sml f n) (hneg : ¬ 0 ≤ f (am f (n - 1))) :
    si (aft f (am f (n - 1)) (ax f (n - 1))) n = 0 ∧ sml (aft f (am f (n - 1)) (ax f (n - 1))) n ∧ cz (aft f (am f (n - 1)) (ax f (n - 1))) n + 1 ≤ cz f n := by
  have hi := am_le f (n - 1)
  have hj := ax_le f (n - 1)
  have hmx : ∀ q, q < n → (f q).toInt ≤ (f (ax f (n - 1))).toInt := fun q hq => ax_max f (n - 1) q (by omega)
  generalize am f (n - 1) = i at hi hneg ⊢
  generalize ax f (n - 1) = j at hj hmx ⊢
  have hin : i < n := by omega
  have hjn : j < n := by omega
  have hfi : (f i).toInt < 0 := by
    have := Int64.lt_iff_toInt_lt.mp (Int64.not_le.mp hneg)
    rwa [Int64.toInt_zero] at this
  have hfj : 0 < (f j).toInt := by
    by_cases h : 0 < (f j).toInt
    · exact h
    · exfalso
      obtain ⟨-, b⟩ := si_np (f := f) n (fun q hq => by have := hmx q hq; omega)
      have := b i hin
      omega
  have hij : j ≠ i := fun z => by rw [z] at hfj; omega
  have hv := pay_i (f := f) (i := i) (j := j) (hb i hin)
  have bi := hb i hin
  have bj := hb j hjn
  unfold aft
  generalize pay f i j = v at hv ⊢
  have ei : (f i + v).toInt = (f i).toInt + v.toInt := by
    rw [Int64.toInt_add]
    split at hv <;> exact Jvm.Kit.bmod64 (by omega) (by omega)
  have ej0 : vp_updL f i (f i + v) j = f j := upL_n hij
  have ej : (f j - v).toInt = (f j).toInt - v.toInt := by
    rw [Int64.toInt_sub]
    split at hv <;> exact Jvm.Kit.bmod64 (by omega) (by omega)
  rw [ej0]
  refine ⟨?_, fun q hq => ?_, ?_⟩
  · rw [si_up n hjn, si_up n hin, ej0, ei, ej]
    omega
  · by_cases h2 : q = j
    · rw [h2, upL_s, ej]
      split at hv <;> omega
    · rw [upL_n h2]
      by_cases h3 : q = i
      · rw [h3, upL_s, ei]
        split at hv <;> omega
      · rw [upL_n h3]
        exact hb q hq
  · have c1 := cz_up (f := f) (v := f i + v) n hin
    have c2 := cz_up (f := vp_updL f i (f i + v)) (v := f j - v) n hjn
    rw [ej0] at c2
    have n1 : ¬ f i = 0 := fun z => by rw [z] at hfi; simp at hfi
    have n2 : ¬ f j = 0 := fun z => by rw [z] at hfj; simp at hfj
    rw [if_neg n1] at c1
    rw [if_neg n2] at c2
    have hz : f i + v = 0 ∨ f j - v = 0 := by
      split at hv
      · right
        exact Int64.toInt_inj.mp (by rw [ej, Int64.toInt_zero]; omega)
      · left
        exact Int64.toInt_inj.mp (by rw [ei, Int64.toInt_zero]; omega)
    rcases hz with z | z
    · rw [if_pos z] at c1
      have : (if f j - v = 0 then 0 else 1) ≤ 1 := by split <;> omega
      omega
    · rw [if_pos z] at c2
      have : (if f i + v = 0 then 0 else 1) ≤ 1 := by split <;> omega
      omega
/-- so many steps are enough -/
theorem trs_more {n : Nat} (h1 : 1 ≤ n) : ∀ (k : Nat) (t : TT), si t.2.1 n = 0 → sml t.2.1 n → cz t.2.1 n ≤ k + 1 → ∀ m, k ≤ m → trs n m t = trs n k t
  | 0, t, hs, hb, hc, m, _ => by
    have h0 := cz_1 n hc hs
    obtain ⟨-, hz⟩ := cz_0 n h0
    have hi := am_le t.2.1 (n - 1)
    have e : t.2.1 (am t.2.1 (n - 1)) = 0 := hz _ (by omega)
    cases m with
    | zero => rfl
    | succ m =>
      show (if 0 ≤ t.2.1 (am t.2.1 (n - 1)) then t else _) = t
      rw [if_pos (by rw [e]; exact Int64.le_refl 0)]
  | k + 1, t, hs, hb, hc, m, hm => by
    cases m with
    | zero => omega
    | succ m =>
      show (if 0 ≤ t.2.1 (am t.2.1 (n - 1)) then t else trs n m (tr1 n t)) = (if 0 ≤ t.2.1 (am t.2.1 (n - 1)) then t else trs n k (tr1 n t))
      by_cases h : 0 ≤ t.2.1 (am t.2.1 (n - 1))
      · rw [if_pos h, if_pos h]
      · rw [if_neg h, if_neg h]
        obtain ⟨a, b, c⟩ := tr_step h1 hs hb h
        exact trs_more h1 k (tr1 n t) a b (by show cz (aft _ _ _) n ≤ k + 1; omega) m (by omega)
theorem trs_14 {n : Nat} (h1 : 1 ≤ n) (hn : n ≤ 15) (t : TT) (hs : si t.2.1 n = 0) (hb : sml t.2.1 n) {m : Nat} (hm : 14 ≤ m) : trs n m t = trs n 14 t :=
  trs_more h1 14 t hs hb (by have := cz_le t.2.1 n; omega) m hm
end XN
end
