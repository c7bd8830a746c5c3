theorem str_of {args : Array Value} {s : State} {own tx : String} {k : Nat} (h1 : (Cond.stringRef own k tx).before args s = true) (h2 : (Cond.exactly (.string own k) "java/lang/String").before args s = true) : ∃ sa, vk_R own k tx sa s := by
  obtain ⟨a, c, cA, kA, q1, -⟩ := Cond.exactly_spec (args := args) (first := s) (o := none) (s := s) (idx := []) (t := .string own k) (cls := "java/lang/String") h2
  exact ⟨a, vk_R.of h1 q1⟩
theorem upd0 : upd (fun _ => 0) 0 (nI 0) = (fun _ => (0 : Int32)) := by
  funext q
  unfold upd
  split <;> rfl
theorem inv0 : invS 0 (1, 0, fun _ => 0, fun _ => 0, fun _ => 0, fun _ => 0, fun _ => 0, fun _ => 0, fun _ => 0, fun _ => 0, fun _ => 0, fun _ => 0) := by
  refine ⟨by decide, by decide, by decide, rfl, fun q hq => ⟨0, by decide, rfl⟩, si_0 1, fun q => ?_, fun q hq => ⟨rfl, rfl⟩, rfl⟩
  show -(((0 : Nat) : Int) * 1000000000000) ≤ (0 : Int64).toInt ∧ (0 : Int64).toInt ≤ ((0 : Nat) : Int) * 1000000000000
  rw [Int64.toInt_zero]
  omega
set_option maxHeartbeats 4000000 in
set_option maxRecDepth 100000 in
/-- what a throw needs, at the law's entry -/
theorem xc_start {s : State} {b : Nat} (hts0 : ∀ w ∈ lw_tbl, w.before #[Value.ref b] s = true) (hgv : (Jvm.Cond.and given_1 narrow_1).before #[Value.ref b] s = true) : xc_ok "ClearingBooks" cb_ks s := by
  have hs := flat_of_before _ hgv
  refine ⟨fun w hw => ?_, fun q hq => ?_, fun w hw => ?_, ?_⟩
  · simp only [xc_w, List.mem_cons, List.not_mem_nil, or_false] at hw
    rcases hw with rfl | rfl | rfl | rfl
    · have h9 : (Cond.laysStatic "java/lang/Throwable" "UNASSIGNED_STACK" "[Ljava/lang/StackTraceElement;").before #[Value.ref b] s = true := hts0 _ (List.mem_append_right _ (List.mem_of_getElem? (i := 131) (by decide +kernel)))
      exact h9
    · have h9 : (Cond.laysStatic "java/lang/Throwable" "SUPPRESSED_SENTINEL" "Ljava/util/List;").before #[Value.ref b] s = true := hts0 _ (List.mem_append_right _ (List.mem_of_getElem? (i := 133) (by decide +kernel)))
      exact h9
    · have h9 : (Cond.isRef (.static "java/lang/Throwable" "UNASSIGNED_STACK" "[Ljava/lang/StackTraceElement;")).before #[Value.ref b] s = true := hs _ (by decide +kernel)
      exact h9
    · have h9 : (Cond.isRef (.static "java/lang/Throwable" "SUPPRESSED_SENTINEL" "Ljava/util/List;")).before #[Value.ref b] s = true := hs _ (by decide +kernel)
      exact h9
  · simp only [cb_ks, List.mem_cons, List.not_mem_nil, or_false] at hq
    rcases hq with rfl | rfl | rfl | rfl | rfl | rfl | rfl | rfl | rfl
    · exact str_of (args := #[Value.ref b]) (hts0 _ (List.mem_append_right _ (List.mem_of_getElem? (i := 144) (by decide +kernel)))) (hs _ (by decide +kernel))
    · exact str_of (args := #[Value.ref b]) (hts0 _ (List.mem_append_right _ (List.mem_of_getElem? (i := 180) (by decide +kernel)))) (hs _ (by decide +kernel))
    · exact str_of (args := #[Value.ref b]) (hts0 _ (List.mem_append_right _ (List.mem_of_getElem? (i := 209) (by decide +kernel)))) (hs _ (by decide +kernel))
    · exact str_of (args := #[Value.ref b]) (hts0 _ (List.mem_append_right _ (List.mem_of_getElem? (i := 214) (by decide +kernel)))) (hs _ (by decide +kernel))
    · exact str_of (args := #[Value.ref b]) (hts0 _ (List.mem_append_right _ (List.mem_of_getElem? (i := 244) (by decide +kernel)))) (hs _ (by decide +kernel))
    · exact str_of (args := #[Value.ref b]) (hts0 _ (List.mem_append_right _ (List.mem_of_getElem? (i := 252) (by decide +kernel)))) (hs _ (by decide +kernel))
    · exact str_of (args := #[Value.ref b]) (hts0 _ (List.mem_append_right _ (List.mem_of_getElem? (i := 253) (by decide +kernel)))) (hs _ (by decide +kernel))
    · exact str_of (args := #[Value.ref b]) (hts0 _ (List.mem_append_right _ (List.mem_of_getElem? (i := 261) (by decide +kernel)))) (hs _ (by decide +kernel))
    · exact str_of (args := #[Value.ref b]) (hts0 _ (List.mem_append_right _ (List.mem_of_getElem? (i := 266) (by decide +kernel)))) (hs _ (by decide +kernel))
  · simp only [xc_f, List.mem_cons, List.not_mem_nil, or_false] at hw
    rcases hw with rfl | rfl | rfl | rfl | rfl
    · have h9 : (Cond.castable "java/lang/IllegalArgumentException" "java/lang/IllegalArgumentException").before #[Value.ref b] s = true := hts0 _ (List.mem_append_right _ (List.mem_of_getElem? (i := 106) (by decide +kernel)))
      exact h9
    · have h9 : (Cond.castable "java/lang/IllegalStateException" "java/lang/IllegalStateException").before #[Value.ref b] s = true := hts0 _ (List.mem_append_right _ (List.mem_of_getElem? (i := 173) (by decide +kernel)))
      exact h9
    · have h9 : (Cond.declares ⟨"java/lang/RuntimeException", "<init>", "(Ljava/lang/String;)V"⟩).before #[Value.ref b] s = true := hts0 _ (List.mem_append_right _ (List.mem_of_getElem? (i := 108) (by decide +kernel)))
      exact h9
    · have h9 : (Cond.declares ⟨"java/lang/Exception", "<init>", "(Ljava/lang/String;)V"⟩).before #[Value.ref b] s = true := hts0 _ (List.mem_append_right _ (List.mem_of_getElem? (i := 110) (by decide +kernel)))
      exact h9
    · have h9 : (Cond.declares ⟨"java/lang/Throwable", "<init>", "(Ljava/lang/String;)V"⟩).before #[Value.ref b] s = true := hts0 _ (List.mem_append_right _ (List.mem_of_getElem? (i := 112) (by decide +kernel)))
      exact h9
  · exact va_Nc.of (args := #[Value.ref b]) (hs _ (by decide +kernel))
set_option maxHeartbeats 4000000 in
set_option maxRecDepth 100000 in
/-- THE LAW, from its entry -/
theorem whole_start {p : Program} {e : Env} {s : State} {m : MethodId} {below : List Frame} {meth : Method} {c : Code} (l : Launch) (hl0 : l.stackTraces = false) {b L : Nat} {xs : Nat → Int32} (hL : L ≤ 2560) (C0 : lw_At p s m meth c b L xs) : W p l e room_1 s m #[Value.ref b] below meth c s.heap [] 0 0 (lw_Z below #[Value.ref b] s) (entryFrame m ([Value.ref b] : List Value).toArray 8) := by
  obtain ⟨hx, hb, hr, hml, hown0, hts0, hX, hbl, hlocks, hgv⟩ := id C0
  have hts : ∀ w ∈ wAll, w.before #[Value.ref b] s = true := fun w h => hts0 w (wAll_tbl h)
  have hown : s.vm.findClass "ClearingBooksLaw" = some m.cls := hown0
  have hA : ∀ q : Nat, s.heap.size ≤ q → (fun q : Nat => s.heap.size ≤ q) q := fun _ h => h
  have hbA : ¬ (fun q : Nat => s.heap.size ≤ q) b := Nat.not_le.mpr hbl
  have hX0 := xc_start hts0 hgv
  obtain ⟨c0, iS0, hKn0⟩ := u_known (C := "ClearingBooks") (T := T_B) (N := 12) (n := 12) hts wi_B (hts _ kw_10)
  obtain ⟨c1, iS1, hKn1⟩ := u_known (C := "ClearingBooksModel") (T := T_M) (N := 13) (n := 13) hts wi_M (hts _ kw_268)
  obtain ⟨dC, dI, hKc⟩ : ∃ (dC : Nat → ClassId) (dI : Nat → Nat → Nat), ∀ (k : Nat) (q : vw_C), vwCl[k]? = some q → u_Kn s q.1 q.2.1 q.2.2 (dC k) (dI k) := by
    refine ⟨fun k => if k = 0 then c0 else c1, fun k => if k = 0 then iS0 else iS1, ?_⟩
    intro k q hq
    match k, hq with
    | 0, hq => cases hq; exact hKn0
    | 1, hq => cases hq; exact hKn1
    | k + 2, hq => simp [vwCl] at hq
  obtain ⟨cI, hcI, hcI2⟩ := arr_known (hts _ kw_54)
  obtain ⟨cJ, hcJ, hcJ2⟩ := arr_known (hts _ kw_55)
  have hS : va_S (fun q : Nat => s.heap.size ≤ q) s.heap s.heap [] := va_S.rf
  have hK : va_K (dC, dI) vwCl [(cI, .int), (cJ, .long)] s := ⟨hKc, fun k q h => by
    match k, h with
    | 0, h => cases h; exact ⟨hcI2, hcI⟩
    | 1, h => cases h; exact ⟨hcJ2, hcJ⟩
    | k + 2, h => simp at h⟩
  have hP : va_P (dC, dI) vwCl [] s.heap := fun k q h => by simp at h
  have hD : va_D (fun q : Nat => s.heap.size ≤ q) [] := ⟨fun i j p q h => by simp at h, fun k q h => by simp at h⟩
  have hl := lv_entry ([.ref b]) (n := 8) (Nat.le_of_ble_eq_true rfl)
  rw [lg_entry_eq]
  generalize (lg_sl ([.ref b]) ++ List.replicate (8 - (lg_sl ([.ref b])).length) Slot.unset).toArray = ls at hl ⊢
  have hl : lv_has ls 8 [(0, .ref b)] := hl
  refine va_new (ci := 0) (fs := [.int (nI 0), .null, .null, .null, .null, .null, .null, .null, .int (nI 0), .null, .null, .null]) (C := "ClearingBooks") (T := T_B) (N := 12) hx hb hts wi_B ty_B tyok_B hown (hts _ kw_9) (hts _ kw_10) (hts _ kw_1) hK hP hD hS hA rfl (fun j hj => by
    match j, hj with
    | 0, _ => rfl
    | 1, _ => rfl
    | 2, _ => rfl
    | 3, _ => rfl
    | 4, _ => rfl
    | 5, _ => rfl
    | 6, _ => rfl
    | 7, _ => rfl
    | 8, _ => rfl
    | 9, _ => rfl
    | 10, _ => rfl
    | 11, _ => rfl
    | k + 12, h => exact absurd h (by omega)) (Nat.le_of_ble_eq_true rfl) (Nat.le_of_ble_eq_true rfl) d_L_law_0 (fun q0v Hq hPq hDq hSq => ?_)
  refine lv_dup hx hb d_L_law_3 rfl ?_
  refine mi_call (wr := []) (va_runI (As := []) (rest := [.ref q0v]) ⟨hx, hb, hml, hown, hts⟩ (c_init l dC dI cI cJ q0v _) (cwI 0 hts (wAll_c kw_13) rfl rfl rfl (hts _ kw_1) (hts _ kw_11) (hts _ kw_12) rfl (by decide +kernel) ⟨Nat.le_of_ble_eq_true rfl, Nat.le_of_ble_eq_true rfl⟩) (mu_preI hK (P_r hPq) (D_r hDq)) rfl rfl hl.1 rfl (lv_room (Nat.le_of_ble_eq_true rfl)) d_L_law_4 ⟨Nat.le_of_ble_eq_true rfl, Nat.le_of_ble_eq_true rfl⟩) hPq hDq hSq hA (fun ad H locs had hP hD hS => ?_)
  clear hPq hDq hSq
  subst had
  have hP : va_P (dC, dI) vwCl (cb_w ad cI cJ 1 0 (upd (fun _ => 0) 0 (nI 0)) (fun _ => 0) (fun _ => 0) (fun _ => 0) (fun _ => 0) (fun _ => 0) (fun _ => 0) (fun _ => 0) (fun _ => 0) (fun _ => 0)) H := hP
  have hD : va_D (fun q : Nat => s.heap.size ≤ q) (cb_w ad cI cJ 1 0 (upd (fun _ => 0) 0 (nI 0)) (fun _ => 0) (fun _ => 0) (fun _ => 0) (fun _ => 0) (fun _ => 0) (fun _ => 0) (fun _ => 0) (fun _ => 0) (fun _ => 0)) := hD
  rw [upd0] at hP hD
  refine lv_astore_n (lv' := [(1, .ref (ad 0)), (0, .ref b)]) hx hb d_L_law_7 rfl hl (by decide) rfl (fun ls hl => ?_)
  refine va_new (ci := 1) (fs := [.int (nI 0), .int (nI 0), .null, .null, .null, .null, .null, .null, .null, .int (nI 0), .null, .null, .null]) (C := "ClearingBooksModel") (T := T_M) (N := 13) hx hb hts wi_M ty_M tyok_M hown (hts _ kw_267) (hts _ kw_268) (hts _ kw_2) hK hP hD hS hA rfl (fun j hj => by
    match j, hj with
    | 0, _ => rfl
    | 1, _ => rfl
    | 2, _ => rfl
    | 3, _ => rfl
    | 4, _ => rfl
    | 5, _ => rfl
    | 6, _ => rfl
    | 7, _ => rfl
    | 8, _ => rfl
    | 9, _ => rfl
    | 10, _ => rfl
    | 11, _ => rfl
    | 12, _ => rfl
    | k + 13, h => exact absurd h (by omega)) (Nat.le_of_ble_eq_true rfl) (Nat.le_of_ble_eq_true rfl) d_L_law_8 (fun q1v Hq hPq hDq hSq => ?_)
  refine lv_dup hx hb d_L_law_11 rfl ?_
  refine mi_call (wr := (cb_w ad cI cJ 1 0 (fun _ => 0) (fun _ => 0) (fun _ => 0) (fun _ => 0) (fun _ => 0) (fun _ => 0) (fun _ => 0) (fun _ => 0) (fun _ => 0) (fun _ => 0))) (va_runI (As := []) (rest := [.ref q1v]) ⟨hx, hb, hml, hown, hts⟩ (m_init l dC dI cI cJ q1v _) (cwI 0 hts (wAll_c kw_271) rfl rfl rfl (hts _ kw_2) (hts _ kw_269) (hts _ kw_270) rfl (by decide +kernel) ⟨Nat.le_of_ble_eq_true rfl, Nat.le_of_ble_eq_true rfl⟩) (mu_preI hK (P_r hPq) (D_r hDq)) rfl rfl hl.1 rfl (lv_room (Nat.le_of_ble_eq_true rfl)) d_L_law_12 ⟨Nat.le_of_ble_eq_true rfl, Nat.le_of_ble_eq_true rfl⟩) hPq hDq hSq hA (fun ad2 H locs had hP hD hS => ?_)
  clear hPq hDq hSq
  subst had
  refine lv_astore_n (lv' := [(2, .ref (ad2 0)), (1, .ref (ad 0)), (0, .ref b)]) hx hb d_L_law_15 rfl hl (by decide) rfl (fun ls hl => ?_)
  refine lv_iconst (v := nI 1) hx hb d_L_law_16 (by decide) ?_
  refine xa_newJ hx hb (hts _ kw_55) hK hP hD hS hA 1 rfl (N' := 1) (by decide) (Nat.le_of_ble_eq_true rfl) (Nat.le_of_ble_eq_true rfl) d_L_law_17 (fun o H hP hD hS => ?_)
  have hP := hP.sub (ws' := (cbS ad cI cJ (1, 0, (fun _ => 0), (fun _ => 0), (fun _ => 0), (fun _ => 0), (fun _ => 0), (fun _ => 0), (fun _ => 0), (fun _ => 0), (fun _ => 0), (fun _ => 0)) ++ [(o, .inl (cJ, 1, .inr (.inl (fun _ => 0))))]) ++ mdS ad2 cI cJ 0 (1, 0, (fun _ => 0), (fun _ => 0), (fun _ => 0), (fun _ => 0), (fun _ => 0), (fun _ => 0), (fun _ => 0), (fun _ => 0), (fun _ => 0), (fun _ => 0))) [0, 1, 2, 3, 4, 5, 6, 7, 8, 9, 10, 22, 11, 12, 13, 14, 15, 16, 17, 18, 19, 20, 21] rfl
  have hD := hD.sub (ws' := (cbS ad cI cJ (1, 0, (fun _ => 0), (fun _ => 0), (fun _ => 0), (fun _ => 0), (fun _ => 0), (fun _ => 0), (fun _ => 0), (fun _ => 0), (fun _ => 0), (fun _ => 0)) ++ [(o, .inl (cJ, 1, .inr (.inl (fun _ => 0))))]) ++ mdS ad2 cI cJ 0 (1, 0, (fun _ => 0), (fun _ => 0), (fun _ => 0), (fun _ => 0), (fun _ => 0), (fun _ => 0), (fun _ => 0), (fun _ => 0), (fun _ => 0), (fun _ => 0))) [0, 1, 2, 3, 4, 5, 6, 7, 8, 9, 10, 22, 11, 12, 13, 14, 15, 16, 17, 18, 19, 20, 21] (by decide) rfl
  refine lv_astore_n (lv' := [(3, .ref o), (2, .ref (ad2 0)), (1, .ref (ad 0)), (0, .ref b)]) hx hb d_L_law_19 rfl hl (by decide) rfl (fun ls hl => ?_)
  refine lv_iconst (v := nI 0) hx hb d_L_law_20 (by decide) ?_
  refine lv_istore (lv' := [(4, .int (nI 0)), (3, .ref o), (2, .ref (ad2 0)), (1, .ref (ad 0)), (0, .ref b)]) hx hb d_L_law_21 hl (by decide) rfl (fun ls hl => ?_)
  refine W.widen (k := 23 + 0) (n := 323 + 6 * 0) (Nat.le_of_ble_eq_true rfl) (Nat.le_of_ble_eq_true rfl) ?_
  exact law_loop hl0 hL C0 hX0 hK 512 0 (1, 0, (fun _ => 0), (fun _ => 0), (fun _ => 0), (fun _ => 0), (fun _ => 0), (fun _ => 0), (fun _ => 0), (fun _ => 0), (fun _ => 0), (fun _ => 0)) (fun _ => 0) 0 H locs ls rfl inv0 hP hD hS (lv_sub hl [4, 3, 2, 1, 0] rfl)
