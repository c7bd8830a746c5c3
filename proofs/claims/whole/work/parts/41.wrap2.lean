set_option maxHeartbeats 4000000 in
set_option maxRecDepth 100000 in
theorem w_reconcile_y (l : Launch) (dC : Nat → ClassId) (dI : Nat → Nat → Nat) (ad : Nat → Nat) (cI cJ : ClassId) (n tc : Nat) (ki ra : Nat → Int32) (po se : Nat → Int64) (bc : Nat → Int32) (bs op : Nat → Int64) (pr pe : Nat → Int32) (pm : Nat → Int64) (o : Nat) (ov : Nat → Int64) (sz : Nat) (i : Nat) (k : Int32) (x : Int64) (hji : i < n) (hn : n ≤ 15) (hki : ki i = nI 1) (hy : bc i = k ∧ bs i = x) : Met l y_L_reconcile (.codeWith y_L_reconcile b_L_reconcile 7 (some .int) [(0, 19, 22, 13)] :: wAll) ({ frames := 8, cells := 1, slots := 6, locals := 136 } : Room) (mx_P [.ref (ad 0), .int (nI i), .int k, .long x, .ref o] (dC, dI) vwCl [(cI, .int), (cJ, .long)] ((cb_w ad cI cJ n tc ki ra po se bc bs op pr pe pm) ++ [(o, .inl (cJ, 1, .inr (.inl ov)))]) sz) (va_Qi (fun (z : Int32) (_ : Unit) => z = nI 0) (mu_B (dC, dI) vwCl [(cI, .int), (cJ, .long)] (va_A ((cb_w ad cI cJ n tc ki ra po se bc bs op pr pe pm) ++ [(o, .inl (cJ, 1, .inr (.inl ov)))]) sz) ((cb_w ad cI cJ n tc ki ra po se (upd bc i (nI 0)) (vp_updL bs i 0) op pr pe pm) ++ [(o, .inl (cJ, 1, .inr (.inl (vp_updL ov 0 1))))])) (va_A ((cb_w ad cI cJ n tc ki ra po se bc bs op pr pe pm) ++ [(o, .inl (cJ, 1, .inr (.inl ov)))]) sz)) 1 6 (va_A ((cb_w ad cI cJ n tc ki ra po se bc bs op pr pe pm) ++ [(o, .inl (cJ, 1, .inr (.inl ov)))]) sz) := by
  refine va_MetW (cc := b_L_reconcile) (maxL := 7) (ret := some .int) (hh := [(0, 19, 22, 13)]) (by decide) rfl ?_
  intro p e s m args below meth c s₁ B hml hv
  obtain ⟨rfl, hsz, hP, hK, hD0, hB⟩ := hv
  have hx := B.exec
  have hb := B.bytes
  have hr := B.returns
  have hts0 := atoms_spec (ws := (.codeWith y_L_reconcile b_L_reconcile 7 (some .int) [(0, 19, 22, 13)] :: wAll)) B.pre
  have hts := hts_all hts0
  have hown : s.vm.findClass "ClearingBooksLaw" = some m.cls := findClass_of_methodNamed B.named
  have hlocks := B.notSynchronized
  subst hsz
  have hD := hD0.self (sz := s.heap.size)
  generalize hAe : va_A ((cb_w ad cI cJ n tc ki ra po se bc bs op pr pe pm) ++ [(o, .inl (cJ, 1, .inr (.inl ov)))]) s.heap.size = A at hD ⊢
  have hA : ∀ q : Nat, s.heap.size ≤ q → A q := fun q h => by rw [← hAe]; exact Or.inr h
  have hS : va_S A s.heap s.heap [] := va_S.rf
  have hl := lv_entry ([.ref (ad 0), .int (nI i), .int k, .long x, .ref o]) (n := 7) (Nat.le_of_ble_eq_true rfl)
  rw [lg_entry_eq]
  generalize (lg_sl ([.ref (ad 0), .int (nI i), .int k, .long x, .ref o]) ++ List.replicate (7 - (lg_sl ([.ref (ad 0), .int (nI i), .int k, .long x, .ref o])).length) Slot.unset).toArray = ls at hl ⊢
  have hl : lv_has ls 7 [(0, .ref (ad 0)), (1, .int (nI i)), (2, .int k), (3, .long x), (5, .ref o)] := hl
  refine lv_aload hx hb d_L_reconcile_0 (lv_at hl 4 rfl) ?_
  refine lv_iconst (v := nI 0) hx hb d_L_reconcile_2 (by decide) ?_
  refine lv_aload_n hx hb d_L_reconcile_3 rfl (lv_at hl 0 rfl) ?_
  refine lv_iload_n hx hb d_L_reconcile_4 rfl (lv_at hl 1 rfl) ?_
  refine lv_iload_n hx hb d_L_reconcile_5 rfl (lv_at hl 2 rfl) ?_
  refine lv_lload_n hx hb d_L_reconcile_6 rfl (lv_at hl 3 rfl) ?_
  refine ml_calli (va_runV (As := [.int (nI i), .int k, .long x]) (rest := [.int (nI 0), .ref o]) ⟨hx, hb, hml, hown, hts⟩ (c_reconcile_y l dC dI ad cI cJ n tc ki ra po se bc bs op pr pe pm _ i k x hji hn hki hy) (cwV 3 hts (wAll_v kw_233 kw_234 kw_235 kw_1 kw_236) rfl rfl rfl (by decide +kernel) ⟨Nat.le_of_ble_eq_true rfl, Nat.le_of_ble_eq_true rfl⟩) (mu_preV hK (P_l hP) (D_l hD) (ci := 0) (q0 := 0) rfl rfl) rfl rfl hl.1 rfl (lv_room (Nat.le_of_ble_eq_true rfl)) d_L_reconcile_7 ⟨Nat.le_of_ble_eq_true rfl, Nat.le_of_ble_eq_true rfl⟩) hP hD hS hA (fun z9 H locs hq hP hD hS => ?_)
  obtain rfl := hq
  have hP : va_P (dC, dI) vwCl ((cb_w ad cI cJ n tc ki ra po se (upd bc i (nI 0)) (vp_updL bs i 0) op pr pe pm) ++ [(o, .inl (cJ, 1, .inr (.inl ov)))]) H := hP
  have hD : va_D A ((cb_w ad cI cJ n tc ki ra po se (upd bc i (nI 0)) (vp_updL bs i 0) op pr pe pm) ++ [(o, .inl (cJ, 1, .inr (.inl ov)))]) := hD
  refine lv_if_eq (tgt := 17) hx hb d_L_reconcile_10 (by decide) (fun c1 => ?_) (fun c1 => ?_)
  · exact absurd c1 (by decide)
  · refine lv_lconst (v := 1) hx hb d_L_reconcile_13 (by decide) ?_
    refine lv_goto (tgt := 18) hx hb d_L_reconcile_14 (by decide) ?_
    refine xa_lastore (f := ov) (x := 1) hx hb hK hP hD hS 11 1 rfl rfl (j := 0) (by omega) (by decide) d_L_reconcile_18 (fun H locs hP hD hS => ?_)
    have hP : va_P (dC, dI) vwCl ((cb_w ad cI cJ n tc ki ra po se (upd bc i (nI 0)) (vp_updL bs i 0) op pr pe pm) ++ [(o, .inl (cJ, 1, .inr (.inl (vp_updL ov 0 1))))]) H := hP
    have hD : va_D A ((cb_w ad cI cJ n tc ki ra po se (upd bc i (nI 0)) (vp_updL bs i 0) op pr pe pm) ++ [(o, .inl (cJ, 1, .inr (.inl (vp_updL ov 0 1))))]) := hD
    refine lv_goto (tgt := 26) hx hb d_L_reconcile_19 (by decide) ?_
    refine lv_iconst (v := nI 0) hx hb d_L_reconcile_26 (by decide) ?_
    refine W.widen (k := 1) (n := 6) (Nat.le_of_ble_eq_true rfl) (Nat.le_of_ble_eq_true rfl) ?_
    exact W.iret (v := nI 0) hx hb hr (fun t ht hW => ⟨⟨nI 0, (), rfl, rfl, by rw [ht]; exact hP, va_K.moved hW.alike hK, hD⟩, hS.F ht⟩) hS.2.2 d_L_reconcile_27
set_option maxHeartbeats 4000000 in
set_option maxRecDepth 100000 in
theorem w_reconcile_n (l : Launch) (dC : Nat → ClassId) (dI : Nat → Nat → Nat) (ad : Nat → Nat) (cI cJ : ClassId) (n tc : Nat) (ki ra : Nat → Int32) (po se : Nat → Int64) (bc : Nat → Int32) (bs op : Nat → Int64) (pr pe : Nat → Int32) (pm : Nat → Int64) (o : Nat) (ov : Nat → Int64) (sz : Nat) (i : Nat) (k : Int32) (x : Int64) (hji : i < n) (hn : n ≤ 15) (hki : ki i = nI 1) (hy : ¬ (bc i = k ∧ bs i = x)) : Met l y_L_reconcile (.codeWith y_L_reconcile b_L_reconcile 7 (some .int) [(0, 19, 22, 13)] :: wAll) ({ frames := 8, cells := 1, slots := 6, locals := 136 } : Room) (mx_P [.ref (ad 0), .int (nI i), .int k, .long x, .ref o] (dC, dI) vwCl [(cI, .int), (cJ, .long)] ((cb_w ad cI cJ n tc ki ra po se bc bs op pr pe pm) ++ [(o, .inl (cJ, 1, .inr (.inl ov)))]) sz) (va_Qi (fun (z : Int32) (_ : Unit) => z = nI 0) (mu_B (dC, dI) vwCl [(cI, .int), (cJ, .long)] (va_A ((cb_w ad cI cJ n tc ki ra po se bc bs op pr pe pm) ++ [(o, .inl (cJ, 1, .inr (.inl ov)))]) sz) ((cb_w ad cI cJ n tc ki ra po se bc bs op pr pe pm) ++ [(o, .inl (cJ, 1, .inr (.inl (vp_updL ov 0 0))))])) (va_A ((cb_w ad cI cJ n tc ki ra po se bc bs op pr pe pm) ++ [(o, .inl (cJ, 1, .inr (.inl ov)))]) sz)) 1 6 (va_A ((cb_w ad cI cJ n tc ki ra po se bc bs op pr pe pm) ++ [(o, .inl (cJ, 1, .inr (.inl ov)))]) sz) := by
  refine va_MetW (cc := b_L_reconcile) (maxL := 7) (ret := some .int) (hh := [(0, 19, 22, 13)]) (by decide) rfl ?_
  intro p e s m args below meth c s₁ B hml hv
  obtain ⟨rfl, hsz, hP, hK, hD0, hB⟩ := hv
  have hx := B.exec
  have hb := B.bytes
  have hr := B.returns
  have hts0 := atoms_spec (ws := (.codeWith y_L_reconcile b_L_reconcile 7 (some .int) [(0, 19, 22, 13)] :: wAll)) B.pre
  have hts := hts_all hts0
  have hown : s.vm.findClass "ClearingBooksLaw" = some m.cls := findClass_of_methodNamed B.named
  have hlocks := B.notSynchronized
  subst hsz
  have hD := hD0.self (sz := s.heap.size)
  generalize hAe : va_A ((cb_w ad cI cJ n tc ki ra po se bc bs op pr pe pm) ++ [(o, .inl (cJ, 1, .inr (.inl ov)))]) s.heap.size = A at hD ⊢
  have hA : ∀ q : Nat, s.heap.size ≤ q → A q := fun q h => by rw [← hAe]; exact Or.inr h
  have hS : va_S A s.heap s.heap [] := va_S.rf
  have hl := lv_entry ([.ref (ad 0), .int (nI i), .int k, .long x, .ref o]) (n := 7) (Nat.le_of_ble_eq_true rfl)
  rw [lg_entry_eq]
  generalize (lg_sl ([.ref (ad 0), .int (nI i), .int k, .long x, .ref o]) ++ List.replicate (7 - (lg_sl ([.ref (ad 0), .int (nI i), .int k, .long x, .ref o])).length) Slot.unset).toArray = ls at hl ⊢
  have hl : lv_has ls 7 [(0, .ref (ad 0)), (1, .int (nI i)), (2, .int k), (3, .long x), (5, .ref o)] := hl
  refine lv_aload hx hb d_L_reconcile_0 (lv_at hl 4 rfl) ?_
  refine lv_iconst (v := nI 0) hx hb d_L_reconcile_2 (by decide) ?_
  refine lv_aload_n hx hb d_L_reconcile_3 rfl (lv_at hl 0 rfl) ?_
  refine lv_iload_n hx hb d_L_reconcile_4 rfl (lv_at hl 1 rfl) ?_
  refine lv_iload_n hx hb d_L_reconcile_5 rfl (lv_at hl 2 rfl) ?_
  refine lv_lload_n hx hb d_L_reconcile_6 rfl (lv_at hl 3 rfl) ?_
  refine ml_calli (va_runV (As := [.int (nI i), .int k, .long x]) (rest := [.int (nI 0), .ref o]) ⟨hx, hb, hml, hown, hts⟩ (c_reconcile_n l dC dI ad cI cJ n tc ki ra po se bc bs op pr pe pm _ i k x hji hn hki hy) (cwV 3 hts (wAll_v kw_233 kw_234 kw_235 kw_1 kw_236) rfl rfl rfl (by decide +kernel) ⟨Nat.le_of_ble_eq_true rfl, Nat.le_of_ble_eq_true rfl⟩) (mu_preV hK (P_l hP) (D_l hD) (ci := 0) (q0 := 0) rfl rfl) rfl rfl hl.1 rfl (lv_room (Nat.le_of_ble_eq_true rfl)) d_L_reconcile_7 ⟨Nat.le_of_ble_eq_true rfl, Nat.le_of_ble_eq_true rfl⟩) hP hD hS hA (fun z9 H locs hq hP hD hS => ?_)
  obtain rfl := hq
  have hP : va_P (dC, dI) vwCl ((cb_w ad cI cJ n tc ki ra po se bc bs op pr pe pm) ++ [(o, .inl (cJ, 1, .inr (.inl ov)))]) H := hP
  have hD : va_D A ((cb_w ad cI cJ n tc ki ra po se bc bs op pr pe pm) ++ [(o, .inl (cJ, 1, .inr (.inl ov)))]) := hD
  refine lv_if_eq (tgt := 17) hx hb d_L_reconcile_10 (by decide) (fun c1 => ?_) (fun c1 => ?_)
  · refine lv_lconst (v := 0) hx hb d_L_reconcile_17 (by decide) ?_
    refine xa_lastore (f := ov) (x := 0) hx hb hK hP hD hS 11 1 rfl rfl (j := 0) (by omega) (by decide) d_L_reconcile_18 (fun H locs hP hD hS => ?_)
    have hP : va_P (dC, dI) vwCl ((cb_w ad cI cJ n tc ki ra po se bc bs op pr pe pm) ++ [(o, .inl (cJ, 1, .inr (.inl (vp_updL ov 0 0))))]) H := hP
    have hD : va_D A ((cb_w ad cI cJ n tc ki ra po se bc bs op pr pe pm) ++ [(o, .inl (cJ, 1, .inr (.inl (vp_updL ov 0 0))))]) := hD
    refine lv_goto (tgt := 26) hx hb d_L_reconcile_19 (by decide) ?_
    refine lv_iconst (v := nI 0) hx hb d_L_reconcile_26 (by decide) ?_
    refine W.widen (k := 1) (n := 6) (Nat.le_of_ble_eq_true rfl) (Nat.le_of_ble_eq_true rfl) ?_
    exact W.iret (v := nI 0) hx hb hr (fun t ht hW => ⟨⟨nI 0, (), rfl, rfl, by rw [ht]; exact hP, va_K.moved hW.alike hK, hD⟩, hS.F ht⟩) hS.2.2 d_L_reconcile_27
  · exact absurd rfl c1
set_option maxHeartbeats 4000000 in
set_option maxRecDepth 100000 in
theorem w_reconcile_t (l : Launch) (dC : Nat → ClassId) (dI : Nat → Nat → Nat) (ad : Nat → Nat) (cI cJ : ClassId) (n tc : Nat) (ki ra : Nat → Int32) (po se : Nat → Int64) (bc : Nat → Int32) (bs op : Nat → Int64) (pr pe : Nat → Int32) (pm : Nat → Int64) (o : Nat) (ov : Nat → Int64) (sz : Nat) (a k : Int32) (x : Int64) (hn : n ≤ 15) (hno : ¬ is_k n ki a (nI 1)) (hl0 : l.stackTraces = false) : Met l y_L_reconcile (.codeWith y_L_reconcile b_L_reconcile 7 (some .int) [(0, 19, 22, 13)] :: wAll) ({ frames := 8, cells := 1, slots := 6, locals := 136 } : Room) (mx_P [.ref (ad 0), .int a, .int k, .long x, .ref o] (dC, dI) vwCl [(cI, .int), (cJ, .long)] ((cb_w ad cI cJ n tc ki ra po se bc bs op pr pe pm) ++ [(o, .inl (cJ, 1, .inr (.inl ov)))]) sz) (va_Qi (fun (z : Int32) (_ : Unit) => z = nI 1) (mu_B (dC, dI) vwCl [(cI, .int), (cJ, .long)] (va_A ((cb_w ad cI cJ n tc ki ra po se bc bs op pr pe pm) ++ [(o, .inl (cJ, 1, .inr (.inl ov)))]) sz) ((cb_w ad cI cJ n tc ki ra po se bc bs op pr pe pm) ++ [(o, .inl (cJ, 1, .inr (.inl ov)))])) (va_A ((cb_w ad cI cJ n tc ki ra po se bc bs op pr pe pm) ++ [(o, .inl (cJ, 1, .inr (.inl ov)))]) sz)) 1 6 (va_A ((cb_w ad cI cJ n tc ki ra po se bc bs op pr pe pm) ++ [(o, .inl (cJ, 1, .inr (.inl ov)))]) sz) := by
  refine va_MetW (cc := b_L_reconcile) (maxL := 7) (ret := some .int) (hh := [(0, 19, 22, 13)]) (by decide) rfl ?_
  intro p e s m args below meth c s₁ B hml hv
  obtain ⟨rfl, hsz, hP, hK, hD0, hB⟩ := hv
  have hx := B.exec
  have hb := B.bytes
  have hr := B.returns
  have hts0 := atoms_spec (ws := (.codeWith y_L_reconcile b_L_reconcile 7 (some .int) [(0, 19, 22, 13)] :: wAll)) B.pre
  have hts := hts_all hts0
  have hown : s.vm.findClass "ClearingBooksLaw" = some m.cls := findClass_of_methodNamed B.named
  have hlocks := B.notSynchronized
  subst hsz
  have hD := hD0.self (sz := s.heap.size)
  generalize hAe : va_A ((cb_w ad cI cJ n tc ki ra po se bc bs op pr pe pm) ++ [(o, .inl (cJ, 1, .inr (.inl ov)))]) s.heap.size = A at hD ⊢
  have hA : ∀ q : Nat, s.heap.size ≤ q → A q := fun q h => by rw [← hAe]; exact Or.inr h
  have hS : va_S A s.heap s.heap [] := va_S.rf
  have htab : c.exceptionTable.toList = [⟨0, 19, 22, 13⟩] := xw_table (Stand.of_body B) B.named (hts0 _ List.mem_cons_self)
  have hl := lv_entry ([.ref (ad 0), .int a, .int k, .long x, .ref o]) (n := 7) (Nat.le_of_ble_eq_true rfl)
  rw [lg_entry_eq]
  generalize (lg_sl ([.ref (ad 0), .int a, .int k, .long x, .ref o]) ++ List.replicate (7 - (lg_sl ([.ref (ad 0), .int a, .int k, .long x, .ref o])).length) Slot.unset).toArray = ls at hl ⊢
  have hl : lv_has ls 7 [(0, .ref (ad 0)), (1, .int a), (2, .int k), (3, .long x), (5, .ref o)] := hl
  refine lv_aload hx hb d_L_reconcile_0 (lv_at hl 4 rfl) ?_
  refine lv_iconst (v := nI 0) hx hb d_L_reconcile_2 (by decide) ?_
  refine lv_aload_n hx hb d_L_reconcile_3 rfl (lv_at hl 0 rfl) ?_
  refine lv_iload_n hx hb d_L_reconcile_4 rfl (lv_at hl 1 rfl) ?_
  refine lv_iload_n hx hb d_L_reconcile_5 rfl (lv_at hl 2 rfl) ?_
  refine lv_lload_n hx hb d_L_reconcile_6 rfl (lv_at hl 3 rfl) ?_
  refine xt_catch (name := "java/lang/IllegalArgumentException") (xt_runV (As := [.int a, .int k, .long x]) (rest := [.int (nI 0), .ref o]) ⟨hx, hb, hml, hown, hts⟩ (c_reconcile_t l dC dI ad cI cJ n tc ki ra po se bc bs op pr pe pm a k x hn hno hl0) (cwV 3 hts (wAll_v kw_233 kw_234 kw_235 kw_1 kw_236) rfl rfl rfl (by decide +kernel) ⟨Nat.le_of_ble_eq_true rfl, Nat.le_of_ble_eq_true rfl⟩) (ro_preV bl_xc hK (P_l hP) (ci := 0) (q0 := 0) rfl rfl (fun U hU hW => xc_moved hB hW (fun q _ => by rw [hU]))) rfl rfl hl.1 rfl (lv_room (Nat.le_of_ble_eq_true rfl)) d_L_reconcile_7 ⟨Nat.le_of_ble_eq_true rfl, Nat.le_of_ble_eq_true rfl⟩) hown [] ⟨0, 19, 22, 13⟩ [] htab (fun z hz => by cases hz) (by decide) (by decide) (hts _ kw_94) (hB.2.2.1 _ (List.mem_of_getElem? (l := xc_f) (i := 0) rfl)) (fun q9 H hz9 hk9 => ?_)
  have hS : va_S A s.heap H [] := ⟨hz9, fun q h1 _ => hk9 q h1, fun _ h => by cases h⟩
  have hP : va_P (dC, dI) vwCl ((cb_w ad cI cJ n tc ki ra po se bc bs op pr pe pm) ++ [(o, .inl (cJ, 1, .inr (.inl ov)))]) H := hP.kept (fun k x hx => hk9 x.1 (hP k x hx).lt)
  refine lv_astore (lv' := [(6, .ref q9), (0, .ref (ad 0)), (1, .int a), (2, .int k), (3, .long x), (5, .ref o)]) hx hb d_L_reconcile_22 hl (by decide) rfl (fun ls hl => ?_)
  refine lv_iconst (v := nI 1) hx hb d_L_reconcile_24 (by decide) ?_
  refine W.widen (k := 1) (n := 6) (Nat.le_of_ble_eq_true rfl) (Nat.le_of_ble_eq_true rfl) ?_
  exact W.iret (v := nI 1) hx hb hr (fun t ht hW => ⟨⟨nI 1, (), rfl, rfl, by rw [ht]; exact hP, va_K.moved hW.alike hK, hD⟩, hS.F ht⟩) hS.2.2 d_L_reconcile_25
set_option maxHeartbeats 4000000 in
set_option maxRecDepth 100000 in
theorem w_batch_y0 (l : Launch) (dC : Nat → ClassId) (dI : Nat → Nat → Nat) (ad : Nat → Nat) (cI cJ : ClassId) (n tc : Nat) (ki ra : Nat → Int32) (po se : Nat → Int64) (bc : Nat → Int32) (bs op : Nat → Int64) (pr pe : Nat → Int32) (pm : Nat → Int64) (o : Nat) (ov : Nat → Int64) (sz : Nat) (i : Nat) (hji : i < n) (hn : n ≤ 15) (hki : ki i = nI 1) : Met l y_L_batch (.codeWith y_L_batch b_L_batch 5 (some .int) [(0, 9, 12, 13)] :: wAll) ({ frames := 8, cells := 1, slots := 6, locals := 134 } : Room) (mx_P [.ref (ad 0), .int (nI i), .int (nI 0), .ref o] (dC, dI) vwCl [(cI, .int), (cJ, .long)] ((cb_w ad cI cJ n tc ki ra po se bc bs op pr pe pm) ++ [(o, .inl (cJ, 1, .inr (.inl ov)))]) sz) (va_Qi (fun (z : Int32) (_ : Unit) => z = nI 0) (mu_B (dC, dI) vwCl [(cI, .int), (cJ, .long)] (va_A ((cb_w ad cI cJ n tc ki ra po se bc bs op pr pe pm) ++ [(o, .inl (cJ, 1, .inr (.inl ov)))]) sz) ((cb_w ad cI cJ n tc ki ra po se bc bs op pr pe pm) ++ [(o, .inl (cJ, 1, .inr (.inl (vp_updL ov 0 ((bc i).toInt64)))))])) (va_A ((cb_w ad cI cJ n tc ki ra po se bc bs op pr pe pm) ++ [(o, .inl (cJ, 1, .inr (.inl ov)))]) sz)) 1 6 (va_A ((cb_w ad cI cJ n tc ki ra po se bc bs op pr pe pm) ++ [(o, .inl (cJ, 1, .inr (.inl ov)))]) sz) := by
  refine va_MetW (cc := b_L_batch) (maxL := 5) (ret := some .int) (hh := [(0, 9, 12, 13)]) (by decide) rfl ?_
  intro p e s m args below meth c s₁ B hml hv
  obtain ⟨rfl, hsz, hP, hK, hD0, hB⟩ := hv
  have hx := B.exec
  have hb := B.bytes
  have hr := B.returns
  have hts0 := atoms_spec (ws := (.codeWith y_L_batch b_L_batch 5 (some .int) [(0, 9, 12, 13)] :: wAll)) B.pre
  have hts := hts_all hts0
  have hown : s.vm.findClass "ClearingBooksLaw" = some m.cls := findClass_of_methodNamed B.named
  have hlocks := B.notSynchronized
  subst hsz
  have hD := hD0.self (sz := s.heap.size)
  generalize hAe : va_A ((cb_w ad cI cJ n tc ki ra po se bc bs op pr pe pm) ++ [(o, .inl (cJ, 1, .inr (.inl ov)))]) s.heap.size = A at hD ⊢
  have hA : ∀ q : Nat, s.heap.size ≤ q → A q := fun q h => by rw [← hAe]; exact Or.inr h
  have hS : va_S A s.heap s.heap [] := va_S.rf
  have hl := lv_entry ([.ref (ad 0), .int (nI i), .int (nI 0), .ref o]) (n := 5) (Nat.le_of_ble_eq_true rfl)
  rw [lg_entry_eq]
  generalize (lg_sl ([.ref (ad 0), .int (nI i), .int (nI 0), .ref o]) ++ List.replicate (5 - (lg_sl ([.ref (ad 0), .int (nI i), .int (nI 0), .ref o])).length) Slot.unset).toArray = ls at hl ⊢
  have hl : lv_has ls 5 [(0, .ref (ad 0)), (1, .int (nI i)), (2, .int (nI 0)), (3, .ref o)] := hl
  refine lv_aload_n hx hb d_L_batch_0 rfl (lv_at hl 3 rfl) ?_
  refine lv_iconst (v := nI 0) hx hb d_L_batch_1 (by decide) ?_
  refine lv_aload_n hx hb d_L_batch_2 rfl (lv_at hl 0 rfl) ?_
  refine lv_iload_n hx hb d_L_batch_3 rfl (lv_at hl 1 rfl) ?_
  refine lv_iload_n hx hb d_L_batch_4 rfl (lv_at hl 2 rfl) ?_
  refine ro_call (va_runV (As := [.int (nI i), .int (nI 0)]) (rest := [.int (nI 0), .ref o]) ⟨hx, hb, hml, hown, hts⟩ (c_batch_y0 l dC dI ad cI cJ n tc ki ra po se bc bs op pr pe pm i hji hn hki) (cwV 2 hts (wAll_v kw_240 kw_241 kw_242 kw_1 kw_243) rfl rfl rfl (by decide +kernel) ⟨Nat.le_of_ble_eq_true rfl, Nat.le_of_ble_eq_true rfl⟩) (ro_preV bl_tt hK (P_l hP) (ci := 0) (q0 := 0) rfl rfl (fun _ _ _ => trivial)) rfl rfl hl.1 rfl (lv_room (Nat.le_of_ble_eq_true rfl)) d_L_batch_5 ⟨Nat.le_of_ble_eq_true rfl, Nat.le_of_ble_eq_true rfl⟩) ?_
  refine W.eq (g2 := F0 m 8 ls [.long ((bc i).toInt64), .int (nI 0), .ref o]) rfl ?_
  refine xa_lastore (f := ov) (x := (bc i).toInt64) hx hb hK hP hD hS 11 1 rfl rfl (j := 0) (by omega) (by decide) d_L_batch_8 (fun H locs hP hD hS => ?_)
  have hP : va_P (dC, dI) vwCl ((cb_w ad cI cJ n tc ki ra po se bc bs op pr pe pm) ++ [(o, .inl (cJ, 1, .inr (.inl (vp_updL ov 0 ((bc i).toInt64)))))]) H := hP
  have hD : va_D A ((cb_w ad cI cJ n tc ki ra po se bc bs op pr pe pm) ++ [(o, .inl (cJ, 1, .inr (.inl (vp_updL ov 0 ((bc i).toInt64)))))]) := hD
  refine lv_goto (tgt := 16) hx hb d_L_batch_9 (by decide) ?_
  refine lv_iconst (v := nI 0) hx hb d_L_batch_16 (by decide) ?_
  refine W.widen (k := 1) (n := 6) (Nat.le_of_ble_eq_true rfl) (Nat.le_of_ble_eq_true rfl) ?_
  exact W.iret (v := nI 0) hx hb hr (fun t ht hW => ⟨⟨nI 0, (), rfl, rfl, by rw [ht]; exact hP, va_K.moved hW.alike hK, hD⟩, hS.F ht⟩) hS.2.2 d_L_batch_17
set_option maxHeartbeats 4000000 in
set_option maxRecDepth 100000 in
theorem w_batch_y1 (l : Launch) (dC : Nat → ClassId) (dI : Nat → Nat → Nat) (ad : Nat → Nat) (cI cJ : ClassId) (n tc : Nat) (ki ra : Nat → Int32) (po se : Nat → Int64) (bc : Nat → Int32) (bs op : Nat → Int64) (pr pe : Nat → Int32) (pm : Nat → Int64) (o : Nat) (ov : Nat → Int64) (sz : Nat) (i : Nat) (hji : i < n) (hn : n ≤ 15) (hki : ki i = nI 1) : Met l y_L_batch (.codeWith y_L_batch b_L_batch 5 (some .int) [(0, 9, 12, 13)] :: wAll) ({ frames := 8, cells := 1, slots := 6, locals := 134 } : Room) (mx_P [.ref (ad 0), .int (nI i), .int (nI 1), .ref o] (dC, dI) vwCl [(cI, .int), (cJ, .long)] ((cb_w ad cI cJ n tc ki ra po se bc bs op pr pe pm) ++ [(o, .inl (cJ, 1, .inr (.inl ov)))]) sz) (va_Qi (fun (z : Int32) (_ : Unit) => z = nI 0) (mu_B (dC, dI) vwCl [(cI, .int), (cJ, .long)] (va_A ((cb_w ad cI cJ n tc ki ra po se bc bs op pr pe pm) ++ [(o, .inl (cJ, 1, .inr (.inl ov)))]) sz) ((cb_w ad cI cJ n tc ki ra po se bc bs op pr pe pm) ++ [(o, .inl (cJ, 1, .inr (.inl (vp_updL ov 0 (bs i)))))])) (va_A ((cb_w ad cI cJ n tc ki ra po se bc bs op pr pe pm) ++ [(o, .inl (cJ, 1, .inr (.inl ov)))]) sz)) 1 6 (va_A ((cb_w ad cI cJ n tc ki ra po se bc bs op pr pe pm) ++ [(o, .inl (cJ, 1, .inr (.inl ov)))]) sz) := by
  refine va_MetW (cc := b_L_batch) (maxL := 5) (ret := some .int) (hh := [(0, 9, 12, 13)]) (by decide) rfl ?_
  intro p e s m args below meth c s₁ B hml hv
  obtain ⟨rfl, hsz, hP, hK, hD0, hB⟩ := hv
  have hx := B.exec
  have hb := B.bytes
  have hr := B.returns
  have hts0 := atoms_spec (ws := (.codeWith y_L_batch b_L_batch 5 (some .int) [(0, 9, 12, 13)] :: wAll)) B.pre
  have hts := hts_all hts0
  have hown : s.vm.findClass "ClearingBooksLaw" = some m.cls := findClass_of_methodNamed B.named
  have hlocks := B.notSynchronized
  subst hsz
  have hD := hD0.self (sz := s.heap.size)
  generalize hAe : va_A ((cb_w ad cI cJ n tc ki ra po se bc bs op pr pe pm) ++ [(o, .inl (cJ, 1, .inr (.inl ov)))]) s.heap.size = A at hD ⊢
  have hA : ∀ q : Nat, s.heap.size ≤ q → A q := fun q h => by rw [← hAe]; exact Or.inr h
  have hS : va_S A s.heap s.heap [] := va_S.rf
  have hl := lv_entry ([.ref (ad 0), .int (nI i), .int (nI 1), .ref o]) (n := 5) (Nat.le_of_ble_eq_true rfl)
  rw [lg_entry_eq]
  generalize (lg_sl ([.ref (ad 0), .int (nI i), .int (nI 1), .ref o]) ++ List.replicate (5 - (lg_sl ([.ref (ad 0), .int (nI i), .int (nI 1), .ref o])).length) Slot.unset).toArray = ls at hl ⊢
  have hl : lv_has ls 5 [(0, .ref (ad 0)), (1, .int (nI i)), (2, .int (nI 1)), (3, .ref o)] := hl
  refine lv_aload_n hx hb d_L_batch_0 rfl (lv_at hl 3 rfl) ?_
  refine lv_iconst (v := nI 0) hx hb d_L_batch_1 (by decide) ?_
  refine lv_aload_n hx hb d_L_batch_2 rfl (lv_at hl 0 rfl) ?_
  refine lv_iload_n hx hb d_L_batch_3 rfl (lv_at hl 1 rfl) ?_
  refine lv_iload_n hx hb d_L_batch_4 rfl (lv_at hl 2 rfl) ?_
  refine ro_call (va_runV (As := [.int (nI i), .int (nI 1)]) (rest := [.int (nI 0), .ref o]) ⟨hx, hb, hml, hown, hts⟩ (c_batch_y1 l dC dI ad cI cJ n tc ki ra po se bc bs op pr pe pm i hji hn hki) (cwV 2 hts (wAll_v kw_240 kw_241 kw_242 kw_1 kw_243) rfl rfl rfl (by decide +kernel) ⟨Nat.le_of_ble_eq_true rfl, Nat.le_of_ble_eq_true rfl⟩) (ro_preV bl_tt hK (P_l hP) (ci := 0) (q0 := 0) rfl rfl (fun _ _ _ => trivial)) rfl rfl hl.1 rfl (lv_room (Nat.le_of_ble_eq_true rfl)) d_L_batch_5 ⟨Nat.le_of_ble_eq_true rfl, Nat.le_of_ble_eq_true rfl⟩) ?_
  refine W.eq (g2 := F0 m 8 ls [.long (bs i), .int (nI 0), .ref o]) rfl ?_
  refine xa_lastore (f := ov) (x := bs i) hx hb hK hP hD hS 11 1 rfl rfl (j := 0) (by omega) (by decide) d_L_batch_8 (fun H locs hP hD hS => ?_)
  have hP : va_P (dC, dI) vwCl ((cb_w ad cI cJ n tc ki ra po se bc bs op pr pe pm) ++ [(o, .inl (cJ, 1, .inr (.inl (vp_updL ov 0 (bs i)))))]) H := hP
  have hD : va_D A ((cb_w ad cI cJ n tc ki ra po se bc bs op pr pe pm) ++ [(o, .inl (cJ, 1, .inr (.inl (vp_updL ov 0 (bs i)))))]) := hD
  refine lv_goto (tgt := 16) hx hb d_L_batch_9 (by decide) ?_
  refine lv_iconst (v := nI 0) hx hb d_L_batch_16 (by decide) ?_
  refine W.widen (k := 1) (n := 6) (Nat.le_of_ble_eq_true rfl) (Nat.le_of_ble_eq_true rfl) ?_
  exact W.iret (v := nI 0) hx hb hr (fun t ht hW => ⟨⟨nI 0, (), rfl, rfl, by rw [ht]; exact hP, va_K.moved hW.alike hK, hD⟩, hS.F ht⟩) hS.2.2 d_L_batch_17
set_option maxHeartbeats 4000000 in
set_option maxRecDepth 100000 in
theorem w_batch_tk (l : Launch) (dC : Nat → ClassId) (dI : Nat → Nat → Nat) (ad : Nat → Nat) (cI cJ : ClassId) (n tc : Nat) (ki ra : Nat → Int32) (po se : Nat → Int64) (bc : Nat → Int32) (bs op : Nat → Int64) (pr pe : Nat → Int32) (pm : Nat → Int64) (o : Nat) (ov : Nat → Int64) (sz : Nat) (x k : Int32) (hn : n ≤ 15) (hno : ¬ is_k n ki x (nI 1)) (hl0 : l.stackTraces = false) : Met l y_L_batch (.codeWith y_L_batch b_L_batch 5 (some .int) [(0, 9, 12, 13)] :: wAll) ({ frames := 8, cells := 1, slots := 6, locals := 134 } : Room) (mx_P [.ref (ad 0), .int x, .int k, .ref o] (dC, dI) vwCl [(cI, .int), (cJ, .long)] ((cb_w ad cI cJ n tc ki ra po se bc bs op pr pe pm) ++ [(o, .inl (cJ, 1, .inr (.inl ov)))]) sz) (va_Qi (fun (z : Int32) (_ : Unit) => z = nI 1) (mu_B (dC, dI) vwCl [(cI, .int), (cJ, .long)] (va_A ((cb_w ad cI cJ n tc ki ra po se bc bs op pr pe pm) ++ [(o, .inl (cJ, 1, .inr (.inl ov)))]) sz) ((cb_w ad cI cJ n tc ki ra po se bc bs op pr pe pm) ++ [(o, .inl (cJ, 1, .inr (.inl ov)))])) (va_A ((cb_w ad cI cJ n tc ki ra po se bc bs op pr pe pm) ++ [(o, .inl (cJ, 1, .inr (.inl ov)))]) sz)) 1 6 (va_A ((cb_w ad cI cJ n tc ki ra po se bc bs op pr pe pm) ++ [(o, .inl (cJ, 1, .inr (.inl ov)))]) sz) := by
  refine va_MetW (cc := b_L_batch) (maxL := 5) (ret := some .int) (hh := [(0, 9, 12, 13)]) (by decide) rfl ?_
  intro p e s m args below meth c s₁ B hml hv
  obtain ⟨rfl, hsz, hP, hK, hD0, hB⟩ := hv
  have hx := B.exec
  have hb := B.bytes
  have hr := B.returns
  have hts0 := atoms_spec (ws := (.codeWith y_L_batch b_L_batch 5 (some .int) [(0, 9, 12, 13)] :: wAll)) B.pre
  have hts := hts_all hts0
  have hown : s.vm.findClass "ClearingBooksLaw" = some m.cls := findClass_of_methodNamed B.named
  have hlocks := B.notSynchronized
  subst hsz
  have hD := hD0.self (sz := s.heap.size)
  generalize hAe : va_A ((cb_w ad cI cJ n tc ki ra po se bc bs op pr pe pm) ++ [(o, .inl (cJ, 1, .inr (.inl ov)))]) s.heap.size = A at hD ⊢
  have hA : ∀ q : Nat, s.heap.size ≤ q → A q := fun q h => by rw [← hAe]; exact Or.inr h
  have hS : va_S A s.heap s.heap [] := va_S.rf
  have htab : c.exceptionTable.toList = [⟨0, 9, 12, 13⟩] := xw_table (Stand.of_body B) B.named (hts0 _ List.mem_cons_self)
  have hl := lv_entry ([.ref (ad 0), .int x, .int k, .ref o]) (n := 5) (Nat.le_of_ble_eq_true rfl)
  rw [lg_entry_eq]
  generalize (lg_sl ([.ref (ad 0), .int x, .int k, .ref o]) ++ List.replicate (5 - (lg_sl ([.ref (ad 0), .int x, .int k, .ref o])).length) Slot.unset).toArray = ls at hl ⊢
  have hl : lv_has ls 5 [(0, .ref (ad 0)), (1, .int x), (2, .int k), (3, .ref o)] := hl
  refine lv_aload_n hx hb d_L_batch_0 rfl (lv_at hl 3 rfl) ?_
  refine lv_iconst (v := nI 0) hx hb d_L_batch_1 (by decide) ?_
  refine lv_aload_n hx hb d_L_batch_2 rfl (lv_at hl 0 rfl) ?_
  refine lv_iload_n hx hb d_L_batch_3 rfl (lv_at hl 1 rfl) ?_
  refine lv_iload_n hx hb d_L_batch_4 rfl (lv_at hl 2 rfl) ?_
  refine xt_catch (name := "java/lang/IllegalArgumentException") (xt_runV (As := [.int x, .int k]) (rest := [.int (nI 0), .ref o]) ⟨hx, hb, hml, hown, hts⟩ (c_batch_tk l dC dI ad cI cJ n tc ki ra po se bc bs op pr pe pm x k hn hno hl0) (cwV 2 hts (wAll_v kw_240 kw_241 kw_242 kw_1 kw_243) rfl rfl rfl (by decide +kernel) ⟨Nat.le_of_ble_eq_true rfl, Nat.le_of_ble_eq_true rfl⟩) (ro_preV bl_xc hK (P_l hP) (ci := 0) (q0 := 0) rfl rfl (fun U hU hW => xc_moved hB hW (fun q _ => by rw [hU]))) rfl rfl hl.1 rfl (lv_room (Nat.le_of_ble_eq_true rfl)) d_L_batch_5 ⟨Nat.le_of_ble_eq_true rfl, Nat.le_of_ble_eq_true rfl⟩) hown [] ⟨0, 9, 12, 13⟩ [] htab (fun z hz => by cases hz) (by decide) (by decide) (hts _ kw_94) (hB.2.2.1 _ (List.mem_of_getElem? (l := xc_f) (i := 0) rfl)) (fun q9 H hz9 hk9 => ?_)
  have hS : va_S A s.heap H [] := ⟨hz9, fun q h1 _ => hk9 q h1, fun _ h => by cases h⟩
  have hP : va_P (dC, dI) vwCl ((cb_w ad cI cJ n tc ki ra po se bc bs op pr pe pm) ++ [(o, .inl (cJ, 1, .inr (.inl ov)))]) H := hP.kept (fun k x hx => hk9 x.1 (hP k x hx).lt)
  refine lv_astore (lv' := [(4, .ref q9), (0, .ref (ad 0)), (1, .int x), (2, .int k), (3, .ref o)]) hx hb d_L_batch_12 hl (by decide) rfl (fun ls hl => ?_)
  refine lv_iconst (v := nI 1) hx hb d_L_batch_14 (by decide) ?_
  refine W.widen (k := 1) (n := 6) (Nat.le_of_ble_eq_true rfl) (Nat.le_of_ble_eq_true rfl) ?_
  exact W.iret (v := nI 1) hx hb hr (fun t ht hW => ⟨⟨nI 1, (), rfl, rfl, by rw [ht]; exact hP, va_K.moved hW.alike hK, hD⟩, hS.F ht⟩) hS.2.2 d_L_batch_15
set_option maxHeartbeats 4000000 in
set_option maxRecDepth 100000 in
theorem w_batch_tw (l : Launch) (dC : Nat → ClassId) (dI : Nat → Nat → Nat) (ad : Nat → Nat) (cI cJ : ClassId) (n tc : Nat) (ki ra : Nat → Int32) (po se : Nat → Int64) (bc : Nat → Int32) (bs op : Nat → Int64) (pr pe : Nat → Int32) (pm : Nat → Int64) (o : Nat) (ov : Nat → Int64) (sz : Nat) (i : Nat) (k : Int32) (hji : i < n) (hn : n ≤ 15) (hki : ki i = nI 1) (hw0 : ¬ k = nI 0) (hw1 : ¬ k = nI 1) (hl0 : l.stackTraces = false) : Met l y_L_batch (.codeWith y_L_batch b_L_batch 5 (some .int) [(0, 9, 12, 13)] :: wAll) ({ frames := 8, cells := 1, slots := 6, locals := 134 } : Room) (mx_P [.ref (ad 0), .int (nI i), .int k, .ref o] (dC, dI) vwCl [(cI, .int), (cJ, .long)] ((cb_w ad cI cJ n tc ki ra po se bc bs op pr pe pm) ++ [(o, .inl (cJ, 1, .inr (.inl ov)))]) sz) (va_Qi (fun (z : Int32) (_ : Unit) => z = nI 1) (mu_B (dC, dI) vwCl [(cI, .int), (cJ, .long)] (va_A ((cb_w ad cI cJ n tc ki ra po se bc bs op pr pe pm) ++ [(o, .inl (cJ, 1, .inr (.inl ov)))]) sz) ((cb_w ad cI cJ n tc ki ra po se bc bs op pr pe pm) ++ [(o, .inl (cJ, 1, .inr (.inl ov)))])) (va_A ((cb_w ad cI cJ n tc ki ra po se bc bs op pr pe pm) ++ [(o, .inl (cJ, 1, .inr (.inl ov)))]) sz)) 1 6 (va_A ((cb_w ad cI cJ n tc ki ra po se bc bs op pr pe pm) ++ [(o, .inl (cJ, 1, .inr (.inl ov)))]) sz) := by
  refine va_MetW (cc := b_L_batch) (maxL := 5) (ret := some .int) (hh := [(0, 9, 12, 13)]) (by decide) rfl ?_
  intro p e s m args below meth c s₁ B hml hv
  obtain ⟨rfl, hsz, hP, hK, hD0, hB⟩ := hv
  have hx := B.exec
  have hb := B.bytes
  have hr := B.returns
  have hts0 := atoms_spec (ws := (.codeWith y_L_batch b_L_batch 5 (some .int) [(0, 9, 12, 13)] :: wAll)) B.pre
  have hts := hts_all hts0
  have hown : s.vm.findClass "ClearingBooksLaw" = some m.cls := findClass_of_methodNamed B.named
  have hlocks := B.notSynchronized
  subst hsz
  have hD := hD0.self (sz := s.heap.size)
  generalize hAe : va_A ((cb_w ad cI cJ n tc ki ra po se bc bs op pr pe pm) ++ [(o, .inl (cJ, 1, .inr (.inl ov)))]) s.heap.size = A at hD ⊢
  have hA : ∀ q : Nat, s.heap.size ≤ q → A q := fun q h => by rw [← hAe]; exact Or.inr h
  have hS : va_S A s.heap s.heap [] := va_S.rf
  have htab : c.exceptionTable.toList = [⟨0, 9, 12, 13⟩] := xw_table (Stand.of_body B) B.named (hts0 _ List.mem_cons_self)
  have hl := lv_entry ([.ref (ad 0), .int (nI i), .int k, .ref o]) (n := 5) (Nat.le_of_ble_eq_true rfl)
  rw [lg_entry_eq]
  generalize (lg_sl ([.ref (ad 0), .int (nI i), .int k, .ref o]) ++ List.replicate (5 - (lg_sl ([.ref (ad 0), .int (nI i), .int k, .ref o])).length) Slot.unset).toArray = ls at hl ⊢
  have hl : lv_has ls 5 [(0, .ref (ad 0)), (1, .int (nI i)), (2, .int k), (3, .ref o)] := hl
  refine lv_aload_n hx hb d_L_batch_0 rfl (lv_at hl 3 rfl) ?_
  refine lv_iconst (v := nI 0) hx hb d_L_batch_1 (by decide) ?_
  refine lv_aload_n hx hb d_L_batch_2 rfl (lv_at hl 0 rfl) ?_
  refine lv_iload_n hx hb d_L_batch_3 rfl (lv_at hl 1 rfl) ?_
  refine lv_iload_n hx hb d_L_batch_4 rfl (lv_at hl 2 rfl) ?_
  refine xt_catch (name := "java/lang/IllegalArgumentException") (xt_runV (As := [.int (nI i), .int k]) (rest := [.int (nI 0), .ref o]) ⟨hx, hb, hml, hown, hts⟩ (c_batch_tw l dC dI ad cI cJ n tc ki ra po se bc bs op pr pe pm i k hji hn hki hw0 hw1 hl0) (cwV 2 hts (wAll_v kw_240 kw_241 kw_242 kw_1 kw_243) rfl rfl rfl (by decide +kernel) ⟨Nat.le_of_ble_eq_true rfl, Nat.le_of_ble_eq_true rfl⟩) (ro_preV bl_xc hK (P_l hP) (ci := 0) (q0 := 0) rfl rfl (fun U hU hW => xc_moved hB hW (fun q _ => by rw [hU]))) rfl rfl hl.1 rfl (lv_room (Nat.le_of_ble_eq_true rfl)) d_L_batch_5 ⟨Nat.le_of_ble_eq_true rfl, Nat.le_of_ble_eq_true rfl⟩) hown [] ⟨0, 9, 12, 13⟩ [] htab (fun z hz => by cases hz) (by decide) (by decide) (hts _ kw_94) (hB.2.2.1 _ (List.mem_of_getElem? (l := xc_f) (i := 0) rfl)) (fun q9 H hz9 hk9 => ?_)
  have hS : va_S A s.heap H [] := ⟨hz9, fun q h1 _ => hk9 q h1, fun _ h => by cases h⟩
  have hP : va_P (dC, dI) vwCl ((cb_w ad cI cJ n tc ki ra po se bc bs op pr pe pm) ++ [(o, .inl (cJ, 1, .inr (.inl ov)))]) H := hP.kept (fun k x hx => hk9 x.1 (hP k x hx).lt)
  refine lv_astore (lv' := [(4, .ref q9), (0, .ref (ad 0)), (1, .int (nI i)), (2, .int k), (3, .ref o)]) hx hb d_L_batch_12 hl (by decide) rfl (fun ls hl => ?_)
  refine lv_iconst (v := nI 1) hx hb d_L_batch_14 (by decide) ?_
  refine W.widen (k := 1) (n := 6) (Nat.le_of_ble_eq_true rfl) (Nat.le_of_ble_eq_true rfl) ?_
  exact W.iret (v := nI 1) hx hb hr (fun t ht hW => ⟨⟨nI 1, (), rfl, rfl, by rw [ht]; exact hP, va_K.moved hW.alike hK, hD⟩, hS.F ht⟩) hS.2.2 d_L_batch_15
set_option maxHeartbeats 4000000 in
set_option maxRecDepth 100000 in
theorem w_transfer_y0 (l : Launch) (dC : Nat → ClassId) (dI : Nat → Nat → Nat) (ad : Nat → Nat) (cI cJ : ClassId) (n tc : Nat) (ki ra : Nat → Int32) (po se : Nat → Int64) (bc : Nat → Int32) (bs op : Nat → Int64) (pr pe : Nat → Int32) (pm : Nat → Int64) (o : Nat) (ov : Nat → Int64) (sz : Nat) (i : Nat) (hi : i < tc) (htc : tc ≤ 14) : Met l y_L_transfer (.codeWith y_L_transfer b_L_transfer 5 (some .int) [(0, 9, 12, 13)] :: wAll) ({ frames := 7, cells := 1, slots := 6, locals := 112 } : Room) (mx_P [.ref (ad 0), .int (nI i), .int (nI 0), .ref o] (dC, dI) vwCl [(cI, .int), (cJ, .long)] ((cb_w ad cI cJ n tc ki ra po se bc bs op pr pe pm) ++ [(o, .inl (cJ, 1, .inr (.inl ov)))]) sz) (va_Qi (fun (z : Int32) (_ : Unit) => z = nI 0) (mu_B (dC, dI) vwCl [(cI, .int), (cJ, .long)] (va_A ((cb_w ad cI cJ n tc ki ra po se bc bs op pr pe pm) ++ [(o, .inl (cJ, 1, .inr (.inl ov)))]) sz) ((cb_w ad cI cJ n tc ki ra po se bc bs op pr pe pm) ++ [(o, .inl (cJ, 1, .inr (.inl (vp_updL ov 0 ((pr i).toInt64)))))])) (va_A ((cb_w ad cI cJ n tc ki ra po se bc bs op pr pe pm) ++ [(o, .inl (cJ, 1, .inr (.inl ov)))]) sz)) 1 6 (va_A ((cb_w ad cI cJ n tc ki ra po se bc bs op pr pe pm) ++ [(o, .inl (cJ, 1, .inr (.inl ov)))]) sz) := by
  refine va_MetW (cc := b_L_transfer) (maxL := 5) (ret := some .int) (hh := [(0, 9, 12, 13)]) (by decide) rfl ?_
  intro p e s m args below meth c s₁ B hml hv
  obtain ⟨rfl, hsz, hP, hK, hD0, hB⟩ := hv
  have hx := B.exec
  have hb := B.bytes
  have hr := B.returns
  have hts0 := atoms_spec (ws := (.codeWith y_L_transfer b_L_transfer 5 (some .int) [(0, 9, 12, 13)] :: wAll)) B.pre
  have hts := hts_all hts0
  have hown : s.vm.findClass "ClearingBooksLaw" = some m.cls := findClass_of_methodNamed B.named
  have hlocks := B.notSynchronized
  subst hsz
  have hD := hD0.self (sz := s.heap.size)
  generalize hAe : va_A ((cb_w ad cI cJ n tc ki ra po se bc bs op pr pe pm) ++ [(o, .inl (cJ, 1, .inr (.inl ov)))]) s.heap.size = A at hD ⊢
  have hA : ∀ q : Nat, s.heap.size ≤ q → A q := fun q h => by rw [← hAe]; exact Or.inr h
  have hS : va_S A s.heap s.heap [] := va_S.rf
  have hl := lv_entry ([.ref (ad 0), .int (nI i), .int (nI 0), .ref o]) (n := 5) (Nat.le_of_ble_eq_true rfl)
  rw [lg_entry_eq]
  generalize (lg_sl ([.ref (ad 0), .int (nI i), .int (nI 0), .ref o]) ++ List.replicate (5 - (lg_sl ([.ref (ad 0), .int (nI i), .int (nI 0), .ref o])).length) Slot.unset).toArray = ls at hl ⊢
  have hl : lv_has ls 5 [(0, .ref (ad 0)), (1, .int (nI i)), (2, .int (nI 0)), (3, .ref o)] := hl
  refine lv_aload_n hx hb d_L_transfer_0 rfl (lv_at hl 3 rfl) ?_
  refine lv_iconst (v := nI 0) hx hb d_L_transfer_1 (by decide) ?_
  refine lv_aload_n hx hb d_L_transfer_2 rfl (lv_at hl 0 rfl) ?_
  refine lv_iload_n hx hb d_L_transfer_3 rfl (lv_at hl 1 rfl) ?_
  refine lv_iload_n hx hb d_L_transfer_4 rfl (lv_at hl 2 rfl) ?_
  refine ro_call (va_runV (As := [.int (nI i), .int (nI 0)]) (rest := [.int (nI 0), .ref o]) ⟨hx, hb, hml, hown, hts⟩ (c_transfer_y0 l dC dI ad cI cJ n tc ki ra po se bc bs op pr pe pm i hi htc) (cwV 2 hts (wAll_v kw_248 kw_249 kw_250 kw_1 kw_251) rfl rfl rfl (by decide +kernel) ⟨Nat.le_of_ble_eq_true rfl, Nat.le_of_ble_eq_true rfl⟩) (ro_preV bl_tt hK (P_l hP) (ci := 0) (q0 := 0) rfl rfl (fun _ _ _ => trivial)) rfl rfl hl.1 rfl (lv_room (Nat.le_of_ble_eq_true rfl)) d_L_transfer_5 ⟨Nat.le_of_ble_eq_true rfl, Nat.le_of_ble_eq_true rfl⟩) ?_
  refine W.eq (g2 := F0 m 8 ls [.long ((pr i).toInt64), .int (nI 0), .ref o]) rfl ?_
  refine xa_lastore (f := ov) (x := (pr i).toInt64) hx hb hK hP hD hS 11 1 rfl rfl (j := 0) (by omega) (by decide) d_L_transfer_8 (fun H locs hP hD hS => ?_)
  have hP : va_P (dC, dI) vwCl ((cb_w ad cI cJ n tc ki ra po se bc bs op pr pe pm) ++ [(o, .inl (cJ, 1, .inr (.inl (vp_updL ov 0 ((pr i).toInt64)))))]) H := hP
  have hD : va_D A ((cb_w ad cI cJ n tc ki ra po se bc bs op pr pe pm) ++ [(o, .inl (cJ, 1, .inr (.inl (vp_updL ov 0 ((pr i).toInt64)))))]) := hD
  refine lv_goto (tgt := 16) hx hb d_L_transfer_9 (by decide) ?_
  refine lv_iconst (v := nI 0) hx hb d_L_transfer_16 (by decide) ?_
  refine W.widen (k := 1) (n := 6) (Nat.le_of_ble_eq_true rfl) (Nat.le_of_ble_eq_true rfl) ?_
  exact W.iret (v := nI 0) hx hb hr (fun t ht hW => ⟨⟨nI 0, (), rfl, rfl, by rw [ht]; exact hP, va_K.moved hW.alike hK, hD⟩, hS.F ht⟩) hS.2.2 d_L_transfer_17
set_option maxHeartbeats 4000000 in
set_option maxRecDepth 100000 in
theorem w_transfer_y1 (l : Launch) (dC : Nat → ClassId) (dI : Nat → Nat → Nat) (ad : Nat → Nat) (cI cJ : ClassId) (n tc : Nat) (ki ra : Nat → Int32) (po se : Nat → Int64) (bc : Nat → Int32) (bs op : Nat → Int64) (pr pe : Nat → Int32) (pm : Nat → Int64) (o : Nat) (ov : Nat → Int64) (sz : Nat) (i : Nat) (hi : i < tc) (htc : tc ≤ 14) : Met l y_L_transfer (.codeWith y_L_transfer b_L_transfer 5 (some .int) [(0, 9, 12, 13)] :: wAll) ({ frames := 7, cells := 1, slots := 6, locals := 112 } : Room) (mx_P [.ref (ad 0), .int (nI i), .int (nI 1), .ref o] (dC, dI) vwCl [(cI, .int), (cJ, .long)] ((cb_w ad cI cJ n tc ki ra po se bc bs op pr pe pm) ++ [(o, .inl (cJ, 1, .inr (.inl ov)))]) sz) (va_Qi (fun (z : Int32) (_ : Unit) => z = nI 0) (mu_B (dC, dI) vwCl [(cI, .int), (cJ, .long)] (va_A ((cb_w ad cI cJ n tc ki ra po se bc bs op pr pe pm) ++ [(o, .inl (cJ, 1, .inr (.inl ov)))]) sz) ((cb_w ad cI cJ n tc ki ra po se bc bs op pr pe pm) ++ [(o, .inl (cJ, 1, .inr (.inl (vp_updL ov 0 ((pe i).toInt64)))))])) (va_A ((cb_w ad cI cJ n tc ki ra po se bc bs op pr pe pm) ++ [(o, .inl (cJ, 1, .inr (.inl ov)))]) sz)) 1 6 (va_A ((cb_w ad cI cJ n tc ki ra po se bc bs op pr pe pm) ++ [(o, .inl (cJ, 1, .inr (.inl ov)))]) sz) := by
  refine va_MetW (cc := b_L_transfer) (maxL := 5) (ret := some .int) (hh := [(0, 9, 12, 13)]) (by decide) rfl ?_
  intro p e s m args below meth c s₁ B hml hv
  obtain ⟨rfl, hsz, hP, hK, hD0, hB⟩ := hv
  have hx := B.exec
  have hb := B.bytes
  have hr := B.returns
  have hts0 := atoms_spec (ws := (.codeWith y_L_transfer b_L_transfer 5 (some .int) [(0, 9, 12, 13)] :: wAll)) B.pre
  have hts := hts_all hts0
  have hown : s.vm.findClass "ClearingBooksLaw" = some m.cls := findClass_of_methodNamed B.named
  have hlocks := B.notSynchronized
  subst hsz
  have hD := hD0.self (sz := s.heap.size)
  generalize hAe : va_A ((cb_w ad cI cJ n tc ki ra po se bc bs op pr pe pm) ++ [(o, .inl (cJ, 1, .inr (.inl ov)))]) s.heap.size = A at hD ⊢
  have hA : ∀ q : Nat, s.heap.size ≤ q → A q := fun q h => by rw [← hAe]; exact Or.inr h
  have hS : va_S A s.heap s.heap [] := va_S.rf
  have hl := lv_entry ([.ref (ad 0), .int (nI i), .int (nI 1), .ref o]) (n := 5) (Nat.le_of_ble_eq_true rfl)
  rw [lg_entry_eq]
  generalize (lg_sl ([.ref (ad 0), .int (nI i), .int (nI 1), .ref o]) ++ List.replicate (5 - (lg_sl ([.ref (ad 0), .int (nI i), .int (nI 1), .ref o])).length) Slot.unset).toArray = ls at hl ⊢
  have hl : lv_has ls 5 [(0, .ref (ad 0)), (1, .int (nI i)), (2, .int (nI 1)), (3, .ref o)] := hl
  refine lv_aload_n hx hb d_L_transfer_0 rfl (lv_at hl 3 rfl) ?_
  refine lv_iconst (v := nI 0) hx hb d_L_transfer_1 (by decide) ?_
  refine lv_aload_n hx hb d_L_transfer_2 rfl (lv_at hl 0 rfl) ?_
  refine lv_iload_n hx hb d_L_transfer_3 rfl (lv_at hl 1 rfl) ?_
  refine lv_iload_n hx hb d_L_transfer_4 rfl (lv_at hl 2 rfl) ?_
  refine ro_call (va_runV (As := [.int (nI i), .int (nI 1)]) (rest := [.int (nI 0), .ref o]) ⟨hx, hb, hml, hown, hts⟩ (c_transfer_y1 l dC dI ad cI cJ n tc ki ra po se bc bs op pr pe pm i hi htc) (cwV 2 hts (wAll_v kw_248 kw_249 kw_250 kw_1 kw_251) rfl rfl rfl (by decide +kernel) ⟨Nat.le_of_ble_eq_true rfl, Nat.le_of_ble_eq_true rfl⟩) (ro_preV bl_tt hK (P_l hP) (ci := 0) (q0 := 0) rfl rfl (fun _ _ _ => trivial)) rfl rfl hl.1 rfl (lv_room (Nat.le_of_ble_eq_true rfl)) d_L_transfer_5 ⟨Nat.le_of_ble_eq_true rfl, Nat.le_of_ble_eq_true rfl⟩) ?_
  refine W.eq (g2 := F0 m 8 ls [.long ((pe i).toInt64), .int (nI 0), .ref o]) rfl ?_
  refine xa_lastore (f := ov) (x := (pe i).toInt64) hx hb hK hP hD hS 11 1 rfl rfl (j := 0) (by omega) (by decide) d_L_transfer_8 (fun H locs hP hD hS => ?_)
  have hP : va_P (dC, dI) vwCl ((cb_w ad cI cJ n tc ki ra po se bc bs op pr pe pm) ++ [(o, .inl (cJ, 1, .inr (.inl (vp_updL ov 0 ((pe i).toInt64)))))]) H := hP
  have hD : va_D A ((cb_w ad cI cJ n tc ki ra po se bc bs op pr pe pm) ++ [(o, .inl (cJ, 1, .inr (.inl (vp_updL ov 0 ((pe i).toInt64)))))]) := hD
  refine lv_goto (tgt := 16) hx hb d_L_transfer_9 (by decide) ?_
  refine lv_iconst (v := nI 0) hx hb d_L_transfer_16 (by decide) ?_
  refine W.widen (k := 1) (n := 6) (Nat.le_of_ble_eq_true rfl) (Nat.le_of_ble_eq_true rfl) ?_
  exact W.iret (v := nI 0) hx hb hr (fun t ht hW => ⟨⟨nI 0, (), rfl, rfl, by rw [ht]; exact hP, va_K.moved hW.alike hK, hD⟩, hS.F ht⟩) hS.2.2 d_L_transfer_17
set_option maxHeartbeats 4000000 in
set_option maxRecDepth 100000 in
theorem w_transfer_y2 (l : Launch) (dC : Nat → ClassId) (dI : Nat → Nat → Nat) (ad : Nat → Nat) (cI cJ : ClassId) (n tc : Nat) (ki ra : Nat → Int32) (po se : Nat → Int64) (bc : Nat → Int32) (bs op : Nat → Int64) (pr pe : Nat → Int32) (pm : Nat → Int64) (o : Nat) (ov : Nat → Int64) (sz : Nat) (i : Nat) (hi : i < tc) (htc : tc ≤ 14) : Met l y_L_transfer (.codeWith y_L_transfer b_L_transfer 5 (some .int) [(0, 9, 12, 13)] :: wAll) ({ frames := 7, cells := 1, slots := 6, locals := 112 } : Room) (mx_P [.ref (ad 0), .int (nI i), .int (nI 2), .ref o] (dC, dI) vwCl [(cI, .int), (cJ, .long)] ((cb_w ad cI cJ n tc ki ra po se bc bs op pr pe pm) ++ [(o, .inl (cJ, 1, .inr (.inl ov)))]) sz) (va_Qi (fun (z : Int32) (_ : Unit) => z = nI 0) (mu_B (dC, dI) vwCl [(cI, .int), (cJ, .long)] (va_A ((cb_w ad cI cJ n tc ki ra po se bc bs op pr pe pm) ++ [(o, .inl (cJ, 1, .inr (.inl ov)))]) sz) ((cb_w ad cI cJ n tc ki ra po se bc bs op pr pe pm) ++ [(o, .inl (cJ, 1, .inr (.inl (vp_updL ov 0 (pm i)))))])) (va_A ((cb_w ad cI cJ n tc ki ra po se bc bs op pr pe pm) ++ [(o, .inl (cJ, 1, .inr (.inl ov)))]) sz)) 1 6 (va_A ((cb_w ad cI cJ n tc ki ra po se bc bs op pr pe pm) ++ [(o, .inl (cJ, 1, .inr (.inl ov)))]) sz) := by
  refine va_MetW (cc := b_L_transfer) (maxL := 5) (ret := some .int) (hh := [(0, 9, 12, 13)]) (by decide) rfl ?_
  intro p e s m args below meth c s₁ B hml hv
  obtain ⟨rfl, hsz, hP, hK, hD0, hB⟩ := hv
  have hx := B.exec
  have hb := B.bytes
  have hr := B.returns
  have hts0 := atoms_spec (ws := (.codeWith y_L_transfer b_L_transfer 5 (some .int) [(0, 9, 12, 13)] :: wAll)) B.pre
  have hts := hts_all hts0
  have hown : s.vm.findClass "ClearingBooksLaw" = some m.cls := findClass_of_methodNamed B.named
  have hlocks := B.notSynchronized
  subst hsz
  have hD := hD0.self (sz := s.heap.size)
  generalize hAe : va_A ((cb_w ad cI cJ n tc ki ra po se bc bs op pr pe pm) ++ [(o, .inl (cJ, 1, .inr (.inl ov)))]) s.heap.size = A at hD ⊢
  have hA : ∀ q : Nat, s.heap.size ≤ q → A q := fun q h => by rw [← hAe]; exact Or.inr h
  have hS : va_S A s.heap s.heap [] := va_S.rf
  have hl := lv_entry ([.ref (ad 0), .int (nI i), .int (nI 2), .ref o]) (n := 5) (Nat.le_of_ble_eq_true rfl)
  rw [lg_entry_eq]
  generalize (lg_sl ([.ref (ad 0), .int (nI i), .int (nI 2), .ref o]) ++ List.replicate (5 - (lg_sl ([.ref (ad 0), .int (nI i), .int (nI 2), .ref o])).length) Slot.unset).toArray = ls at hl ⊢
  have hl : lv_has ls 5 [(0, .ref (ad 0)), (1, .int (nI i)), (2, .int (nI 2)), (3, .ref o)] := hl
  refine lv_aload_n hx hb d_L_transfer_0 rfl (lv_at hl 3 rfl) ?_
  refine lv_iconst (v := nI 0) hx hb d_L_transfer_1 (by decide) ?_
  refine lv_aload_n hx hb d_L_transfer_2 rfl (lv_at hl 0 rfl) ?_
  refine lv_iload_n hx hb d_L_transfer_3 rfl (lv_at hl 1 rfl) ?_
  refine lv_iload_n hx hb d_L_transfer_4 rfl (lv_at hl 2 rfl) ?_
  refine ro_call (va_runV (As := [.int (nI i), .int (nI 2)]) (rest := [.int (nI 0), .ref o]) ⟨hx, hb, hml, hown, hts⟩ (c_transfer_y2 l dC dI ad cI cJ n tc ki ra po se bc bs op pr pe pm i hi htc) (cwV 2 hts (wAll_v kw_248 kw_249 kw_250 kw_1 kw_251) rfl rfl rfl (by decide +kernel) ⟨Nat.le_of_ble_eq_true rfl, Nat.le_of_ble_eq_true rfl⟩) (ro_preV bl_tt hK (P_l hP) (ci := 0) (q0 := 0) rfl rfl (fun _ _ _ => trivial)) rfl rfl hl.1 rfl (lv_room (Nat.le_of_ble_eq_true rfl)) d_L_transfer_5 ⟨Nat.le_of_ble_eq_true rfl, Nat.le_of_ble_eq_true rfl⟩) ?_
  refine W.eq (g2 := F0 m 8 ls [.long (pm i), .int (nI 0), .ref o]) rfl ?_
  refine xa_lastore (f := ov) (x := pm i) hx hb hK hP hD hS 11 1 rfl rfl (j := 0) (by omega) (by decide) d_L_transfer_8 (fun H locs hP hD hS => ?_)
  have hP : va_P (dC, dI) vwCl ((cb_w ad cI cJ n tc ki ra po se bc bs op pr pe pm) ++ [(o, .inl (cJ, 1, .inr (.inl (vp_updL ov 0 (pm i)))))]) H := hP
  have hD : va_D A ((cb_w ad cI cJ n tc ki ra po se bc bs op pr pe pm) ++ [(o, .inl (cJ, 1, .inr (.inl (vp_updL ov 0 (pm i)))))]) := hD
  refine lv_goto (tgt := 16) hx hb d_L_transfer_9 (by decide) ?_
  refine lv_iconst (v := nI 0) hx hb d_L_transfer_16 (by decide) ?_
  refine W.widen (k := 1) (n := 6) (Nat.le_of_ble_eq_true rfl) (Nat.le_of_ble_eq_true rfl) ?_
  exact W.iret (v := nI 0) hx hb hr (fun t ht hW => ⟨⟨nI 0, (), rfl, rfl, by rw [ht]; exact hP, va_K.moved hW.alike hK, hD⟩, hS.F ht⟩) hS.2.2 d_L_transfer_17
set_option maxHeartbeats 4000000 in
set_option maxRecDepth 100000 in
theorem w_transfer_tk (l : Launch) (dC : Nat → ClassId) (dI : Nat → Nat → Nat) (ad : Nat → Nat) (cI cJ : ClassId) (n tc : Nat) (ki ra : Nat → Int32) (po se : Nat → Int64) (bc : Nat → Int32) (bs op : Nat → Int64) (pr pe : Nat → Int32) (pm : Nat → Int64) (o : Nat) (ov : Nat → Int64) (sz : Nat) (x k : Int32) (hno : ¬ (¬ x < 0 ∧ x < nI tc)) (hl0 : l.stackTraces = false) : Met l y_L_transfer (.codeWith y_L_transfer b_L_transfer 5 (some .int) [(0, 9, 12, 13)] :: wAll) ({ frames := 7, cells := 1, slots := 6, locals := 112 } : Room) (mx_P [.ref (ad 0), .int x, .int k, .ref o] (dC, dI) vwCl [(cI, .int), (cJ, .long)] ((cb_w ad cI cJ n tc ki ra po se bc bs op pr pe pm) ++ [(o, .inl (cJ, 1, .inr (.inl ov)))]) sz) (va_Qi (fun (z : Int32) (_ : Unit) => z = nI 1) (mu_B (dC, dI) vwCl [(cI, .int), (cJ, .long)] (va_A ((cb_w ad cI cJ n tc ki ra po se bc bs op pr pe pm) ++ [(o, .inl (cJ, 1, .inr (.inl ov)))]) sz) ((cb_w ad cI cJ n tc ki ra po se bc bs op pr pe pm) ++ [(o, .inl (cJ, 1, .inr (.inl ov)))])) (va_A ((cb_w ad cI cJ n tc ki ra po se bc bs op pr pe pm) ++ [(o, .inl (cJ, 1, .inr (.inl ov)))]) sz)) 1 6 (va_A ((cb_w ad cI cJ n tc ki ra po se bc bs op pr pe pm) ++ [(o, .inl (cJ, 1, .inr (.inl ov)))]) sz) := by
  refine va_MetW (cc := b_L_transfer) (maxL := 5) (ret := some .int) (hh := [(0, 9, 12, 13)]) (by decide) rfl ?_
  intro p e s m args below meth c s₁ B hml hv
  obtain ⟨rfl, hsz, hP, hK, hD0, hB⟩ := hv
  have hx := B.exec
  have hb := B.bytes
  have hr := B.returns
  have hts0 := atoms_spec (ws := (.codeWith y_L_transfer b_L_transfer 5 (some .int) [(0, 9, 12, 13)] :: wAll)) B.pre
  have hts := hts_all hts0
  have hown : s.vm.findClass "ClearingBooksLaw" = some m.cls := findClass_of_methodNamed B.named
  have hlocks := B.notSynchronized
  subst hsz
  have hD := hD0.self (sz := s.heap.size)
  generalize hAe : va_A ((cb_w ad cI cJ n tc ki ra po se bc bs op pr pe pm) ++ [(o, .inl (cJ, 1, .inr (.inl ov)))]) s.heap.size = A at hD ⊢
  have hA : ∀ q : Nat, s.heap.size ≤ q → A q := fun q h => by rw [← hAe]; exact Or.inr h
  have hS : va_S A s.heap s.heap [] := va_S.rf
  have htab : c.exceptionTable.toList = [⟨0, 9, 12, 13⟩] := xw_table (Stand.of_body B) B.named (hts0 _ List.mem_cons_self)
  have hl := lv_entry ([.ref (ad 0), .int x, .int k, .ref o]) (n := 5) (Nat.le_of_ble_eq_true rfl)
  rw [lg_entry_eq]
  generalize (lg_sl ([.ref (ad 0), .int x, .int k, .ref o]) ++ List.replicate (5 - (lg_sl ([.ref (ad 0), .int x, .int k, .ref o])).length) Slot.unset).toArray = ls at hl ⊢
  have hl : lv_has ls 5 [(0, .ref (ad 0)), (1, .int x), (2, .int k), (3, .ref o)] := hl
  refine lv_aload_n hx hb d_L_transfer_0 rfl (lv_at hl 3 rfl) ?_
  refine lv_iconst (v := nI 0) hx hb d_L_transfer_1 (by decide) ?_
  refine lv_aload_n hx hb d_L_transfer_2 rfl (lv_at hl 0 rfl) ?_
  refine lv_iload_n hx hb d_L_transfer_3 rfl (lv_at hl 1 rfl) ?_
  refine lv_iload_n hx hb d_L_transfer_4 rfl (lv_at hl 2 rfl) ?_
  refine xt_catch (name := "java/lang/IllegalArgumentException") (xt_runV (As := [.int x, .int k]) (rest := [.int (nI 0), .ref o]) ⟨hx, hb, hml, hown, hts⟩ (c_transfer_tk l dC dI ad cI cJ n tc ki ra po se bc bs op pr pe pm x k hno hl0) (cwV 2 hts (wAll_v kw_248 kw_249 kw_250 kw_1 kw_251) rfl rfl rfl (by decide +kernel) ⟨Nat.le_of_ble_eq_true rfl, Nat.le_of_ble_eq_true rfl⟩) (ro_preV bl_xc hK (P_l hP) (ci := 0) (q0 := 0) rfl rfl (fun U hU hW => xc_moved hB hW (fun q _ => by rw [hU]))) rfl rfl hl.1 rfl (lv_room (Nat.le_of_ble_eq_true rfl)) d_L_transfer_5 ⟨Nat.le_of_ble_eq_true rfl, Nat.le_of_ble_eq_true rfl⟩) hown [] ⟨0, 9, 12, 13⟩ [] htab (fun z hz => by cases hz) (by decide) (by decide) (hts _ kw_94) (hB.2.2.1 _ (List.mem_of_getElem? (l := xc_f) (i := 0) rfl)) (fun q9 H hz9 hk9 => ?_)
  have hS : va_S A s.heap H [] := ⟨hz9, fun q h1 _ => hk9 q h1, fun _ h => by cases h⟩
  have hP : va_P (dC, dI) vwCl ((cb_w ad cI cJ n tc ki ra po se bc bs op pr pe pm) ++ [(o, .inl (cJ, 1, .inr (.inl ov)))]) H := hP.kept (fun k x hx => hk9 x.1 (hP k x hx).lt)
  refine lv_astore (lv' := [(4, .ref q9), (0, .ref (ad 0)), (1, .int x), (2, .int k), (3, .ref o)]) hx hb d_L_transfer_12 hl (by decide) rfl (fun ls hl => ?_)
  refine lv_iconst (v := nI 1) hx hb d_L_transfer_14 (by decide) ?_
  refine W.widen (k := 1) (n := 6) (Nat.le_of_ble_eq_true rfl) (Nat.le_of_ble_eq_true rfl) ?_
  exact W.iret (v := nI 1) hx hb hr (fun t ht hW => ⟨⟨nI 1, (), rfl, rfl, by rw [ht]; exact hP, va_K.moved hW.alike hK, hD⟩, hS.F ht⟩) hS.2.2 d_L_transfer_15
set_option maxHeartbeats 4000000 in
set_option maxRecDepth 100000 in
theorem w_transfer_tw (l : Launch) (dC : Nat → ClassId) (dI : Nat → Nat → Nat) (ad : Nat → Nat) (cI cJ : ClassId) (n tc : Nat) (ki ra : Nat → Int32) (po se : Nat → Int64) (bc : Nat → Int32) (bs op : Nat → Int64) (pr pe : Nat → Int32) (pm : Nat → Int64) (o : Nat) (ov : Nat → Int64) (sz : Nat) (i : Nat) (k : Int32) (hi : i < tc) (htc : tc ≤ 14) (hw : k.toInt < 0 ∨ 2 < k.toInt) (hl0 : l.stackTraces = false) : Met l y_L_transfer (.codeWith y_L_transfer b_L_transfer 5 (some .int) [(0, 9, 12, 13)] :: wAll) ({ frames := 7, cells := 1, slots := 6, locals := 112 } : Room) (mx_P [.ref (ad 0), .int (nI i), .int k, .ref o] (dC, dI) vwCl [(cI, .int), (cJ, .long)] ((cb_w ad cI cJ n tc ki ra po se bc bs op pr pe pm) ++ [(o, .inl (cJ, 1, .inr (.inl ov)))]) sz) (va_Qi (fun (z : Int32) (_ : Unit) => z = nI 1) (mu_B (dC, dI) vwCl [(cI, .int), (cJ, .long)] (va_A ((cb_w ad cI cJ n tc ki ra po se bc bs op pr pe pm) ++ [(o, .inl (cJ, 1, .inr (.inl ov)))]) sz) ((cb_w ad cI cJ n tc ki ra po se bc bs op pr pe pm) ++ [(o, .inl (cJ, 1, .inr (.inl ov)))])) (va_A ((cb_w ad cI cJ n tc ki ra po se bc bs op pr pe pm) ++ [(o, .inl (cJ, 1, .inr (.inl ov)))]) sz)) 1 6 (va_A ((cb_w ad cI cJ n tc ki ra po se bc bs op pr pe pm) ++ [(o, .inl (cJ, 1, .inr (.inl ov)))]) sz) := by
  refine va_MetW (cc := b_L_transfer) (maxL := 5) (ret := some .int) (hh := [(0, 9, 12, 13)]) (by decide) rfl ?_
  intro p e s m args below meth c s₁ B hml hv
  obtain ⟨rfl, hsz, hP, hK, hD0, hB⟩ := hv
  have hx := B.exec
  have hb := B.bytes
  have hr := B.returns
  have hts0 := atoms_spec (ws := (.codeWith y_L_transfer b_L_transfer 5 (some .int) [(0, 9, 12, 13)] :: wAll)) B.pre
  have hts := hts_all hts0
  have hown : s.vm.findClass "ClearingBooksLaw" = some m.cls := findClass_of_methodNamed B.named
  have hlocks := B.notSynchronized
  subst hsz
  have hD := hD0.self (sz := s.heap.size)
  generalize hAe : va_A ((cb_w ad cI cJ n tc ki ra po se bc bs op pr pe pm) ++ [(o, .inl (cJ, 1, .inr (.inl ov)))]) s.heap.size = A at hD ⊢
  have hA : ∀ q : Nat, s.heap.size ≤ q → A q := fun q h => by rw [← hAe]; exact Or.inr h
  have hS : va_S A s.heap s.heap [] := va_S.rf
  have htab : c.exceptionTable.toList = [⟨0, 9, 12, 13⟩] := xw_table (Stand.of_body B) B.named (hts0 _ List.mem_cons_self)
  have hl := lv_entry ([.ref (ad 0), .int (nI i), .int k, .ref o]) (n := 5) (Nat.le_of_ble_eq_true rfl)
  rw [lg_entry_eq]
  generalize (lg_sl ([.ref (ad 0), .int (nI i), .int k, .ref o]) ++ List.replicate (5 - (lg_sl ([.ref (ad 0), .int (nI i), .int k, .ref o])).length) Slot.unset).toArray = ls at hl ⊢
  have hl : lv_has ls 5 [(0, .ref (ad 0)), (1, .int (nI i)), (2, .int k), (3, .ref o)] := hl
  refine lv_aload_n hx hb d_L_transfer_0 rfl (lv_at hl 3 rfl) ?_
  refine lv_iconst (v := nI 0) hx hb d_L_transfer_1 (by decide) ?_
  refine lv_aload_n hx hb d_L_transfer_2 rfl (lv_at hl 0 rfl) ?_
  refine lv_iload_n hx hb d_L_transfer_3 rfl (lv_at hl 1 rfl) ?_
  refine lv_iload_n hx hb d_L_transfer_4 rfl (lv_at hl 2 rfl) ?_
  refine xt_catch (name := "java/lang/IllegalArgumentException") (xt_runV (As := [.int (nI i), .int k]) (rest := [.int (nI 0), .ref o]) ⟨hx, hb, hml, hown, hts⟩ (c_transfer_tw l dC dI ad cI cJ n tc ki ra po se bc bs op pr pe pm i k hi htc hw hl0) (cwV 2 hts (wAll_v kw_248 kw_249 kw_250 kw_1 kw_251) rfl rfl rfl (by decide +kernel) ⟨Nat.le_of_ble_eq_true rfl, Nat.le_of_ble_eq_true rfl⟩) (ro_preV bl_xc hK (P_l hP) (ci := 0) (q0 := 0) rfl rfl (fun U hU hW => xc_moved hB hW (fun q _ => by rw [hU]))) rfl rfl hl.1 rfl (lv_room (Nat.le_of_ble_eq_true rfl)) d_L_transfer_5 ⟨Nat.le_of_ble_eq_true rfl, Nat.le_of_ble_eq_true rfl⟩) hown [] ⟨0, 9, 12, 13⟩ [] htab (fun z hz => by cases hz) (by decide) (by decide) (hts _ kw_94) (hB.2.2.1 _ (List.mem_of_getElem? (l := xc_f) (i := 0) rfl)) (fun q9 H hz9 hk9 => ?_)
  have hS : va_S A s.heap H [] := ⟨hz9, fun q h1 _ => hk9 q h1, fun _ h => by cases h⟩
  have hP : va_P (dC, dI) vwCl ((cb_w ad cI cJ n tc ki ra po se bc bs op pr pe pm) ++ [(o, .inl (cJ, 1, .inr (.inl ov)))]) H := hP.kept (fun k x hx => hk9 x.1 (hP k x hx).lt)
  refine lv_astore (lv' := [(4, .ref q9), (0, .ref (ad 0)), (1, .int (nI i)), (2, .int k), (3, .ref o)]) hx hb d_L_transfer_12 hl (by decide) rfl (fun ls hl => ?_)
  refine lv_iconst (v := nI 1) hx hb d_L_transfer_14 (by decide) ?_
  refine W.widen (k := 1) (n := 6) (Nat.le_of_ble_eq_true rfl) (Nat.le_of_ble_eq_true rfl) ?_
  exact W.iret (v := nI 1) hx hb hr (fun t ht hW => ⟨⟨nI 1, (), rfl, rfl, by rw [ht]; exact hP, va_K.moved hW.alike hK, hD⟩, hS.F ht⟩) hS.2.2 d_L_transfer_15
set_option maxHeartbeats 4000000 in
set_option maxRecDepth 100000 in
theorem w_party_y0 (l : Launch) (dC : Nat → ClassId) (dI : Nat → Nat → Nat) (ad : Nat → Nat) (cI cJ : ClassId) (n tc : Nat) (ki ra : Nat → Int32) (po se : Nat → Int64) (bc : Nat → Int32) (bs op : Nat → Int64) (pr pe : Nat → Int32) (pm : Nat → Int64) (o : Nat) (ov : Nat → Int64) (sz : Nat) (i : Nat) (hi : i < n) (hn : n ≤ 15) : Met l y_L_party (.codeWith y_L_party b_L_party 5 (some .int) [(0, 9, 12, 13)] :: wAll) ({ frames := 7, cells := 1, slots := 6, locals := 112 } : Room) (mx_P [.ref (ad 0), .int (nI i), .int (nI 0), .ref o] (dC, dI) vwCl [(cI, .int), (cJ, .long)] ((cb_w ad cI cJ n tc ki ra po se bc bs op pr pe pm) ++ [(o, .inl (cJ, 1, .inr (.inl ov)))]) sz) (va_Qi (fun (z : Int32) (_ : Unit) => z = nI 0) (mu_B (dC, dI) vwCl [(cI, .int), (cJ, .long)] (va_A ((cb_w ad cI cJ n tc ki ra po se bc bs op pr pe pm) ++ [(o, .inl (cJ, 1, .inr (.inl ov)))]) sz) ((cb_w ad cI cJ n tc ki ra po se bc bs op pr pe pm) ++ [(o, .inl (cJ, 1, .inr (.inl (vp_updL ov 0 (po i)))))])) (va_A ((cb_w ad cI cJ n tc ki ra po se bc bs op pr pe pm) ++ [(o, .inl (cJ, 1, .inr (.inl ov)))]) sz)) 1 6 (va_A ((cb_w ad cI cJ n tc ki ra po se bc bs op pr pe pm) ++ [(o, .inl (cJ, 1, .inr (.inl ov)))]) sz) := by
  refine va_MetW (cc := b_L_party) (maxL := 5) (ret := some .int) (hh := [(0, 9, 12, 13)]) (by decide) rfl ?_
  intro p e s m args below meth c s₁ B hml hv
  obtain ⟨rfl, hsz, hP, hK, hD0, hB⟩ := hv
  have hx := B.exec
  have hb := B.bytes
  have hr := B.returns
  have hts0 := atoms_spec (ws := (.codeWith y_L_party b_L_party 5 (some .int) [(0, 9, 12, 13)] :: wAll)) B.pre
  have hts := hts_all hts0
  have hown : s.vm.findClass "ClearingBooksLaw" = some m.cls := findClass_of_methodNamed B.named
  have hlocks := B.notSynchronized
  subst hsz
  have hD := hD0.self (sz := s.heap.size)
  generalize hAe : va_A ((cb_w ad cI cJ n tc ki ra po se bc bs op pr pe pm) ++ [(o, .inl (cJ, 1, .inr (.inl ov)))]) s.heap.size = A at hD ⊢
  have hA : ∀ q : Nat, s.heap.size ≤ q → A q := fun q h => by rw [← hAe]; exact Or.inr h
  have hS : va_S A s.heap s.heap [] := va_S.rf
  have hl := lv_entry ([.ref (ad 0), .int (nI i), .int (nI 0), .ref o]) (n := 5) (Nat.le_of_ble_eq_true rfl)
  rw [lg_entry_eq]
  generalize (lg_sl ([.ref (ad 0), .int (nI i), .int (nI 0), .ref o]) ++ List.replicate (5 - (lg_sl ([.ref (ad 0), .int (nI i), .int (nI 0), .ref o])).length) Slot.unset).toArray = ls at hl ⊢
  have hl : lv_has ls 5 [(0, .ref (ad 0)), (1, .int (nI i)), (2, .int (nI 0)), (3, .ref o)] := hl
  refine lv_aload_n hx hb d_L_party_0 rfl (lv_at hl 3 rfl) ?_
  refine lv_iconst (v := nI 0) hx hb d_L_party_1 (by decide) ?_
  refine lv_aload_n hx hb d_L_party_2 rfl (lv_at hl 0 rfl) ?_
  refine lv_iload_n hx hb d_L_party_3 rfl (lv_at hl 1 rfl) ?_
  refine lv_iload_n hx hb d_L_party_4 rfl (lv_at hl 2 rfl) ?_
  refine ro_call (va_runV (As := [.int (nI i), .int (nI 0)]) (rest := [.int (nI 0), .ref o]) ⟨hx, hb, hml, hown, hts⟩ (c_party_y0 l dC dI ad cI cJ n tc ki ra po se bc bs op pr pe pm i hi hn) (cwV 2 hts (wAll_v kw_257 kw_258 kw_259 kw_1 kw_260) rfl rfl rfl (by decide +kernel) ⟨Nat.le_of_ble_eq_true rfl, Nat.le_of_ble_eq_true rfl⟩) (ro_preV bl_tt hK (P_l hP) (ci := 0) (q0 := 0) rfl rfl (fun _ _ _ => trivial)) rfl rfl hl.1 rfl (lv_room (Nat.le_of_ble_eq_true rfl)) d_L_party_5 ⟨Nat.le_of_ble_eq_true rfl, Nat.le_of_ble_eq_true rfl⟩) ?_
  refine W.eq (g2 := F0 m 8 ls [.long (po i), .int (nI 0), .ref o]) rfl ?_
  refine xa_lastore (f := ov) (x := po i) hx hb hK hP hD hS 11 1 rfl rfl (j := 0) (by omega) (by decide) d_L_party_8 (fun H locs hP hD hS => ?_)
  have hP : va_P (dC, dI) vwCl ((cb_w ad cI cJ n tc ki ra po se bc bs op pr pe pm) ++ [(o, .inl (cJ, 1, .inr (.inl (vp_updL ov 0 (po i)))))]) H := hP
  have hD : va_D A ((cb_w ad cI cJ n tc ki ra po se bc bs op pr pe pm) ++ [(o, .inl (cJ, 1, .inr (.inl (vp_updL ov 0 (po i)))))]) := hD
  refine lv_goto (tgt := 16) hx hb d_L_party_9 (by decide) ?_
  refine lv_iconst (v := nI 0) hx hb d_L_party_16 (by decide) ?_
  refine W.widen (k := 1) (n := 6) (Nat.le_of_ble_eq_true rfl) (Nat.le_of_ble_eq_true rfl) ?_
  exact W.iret (v := nI 0) hx hb hr (fun t ht hW => ⟨⟨nI 0, (), rfl, rfl, by rw [ht]; exact hP, va_K.moved hW.alike hK, hD⟩, hS.F ht⟩) hS.2.2 d_L_party_17
set_option maxHeartbeats 4000000 in
set_option maxRecDepth 100000 in
theorem w_party_y1 (l : Launch) (dC : Nat → ClassId) (dI : Nat → Nat → Nat) (ad : Nat → Nat) (cI cJ : ClassId) (n tc : Nat) (ki ra : Nat → Int32) (po se : Nat → Int64) (bc : Nat → Int32) (bs op : Nat → Int64) (pr pe : Nat → Int32) (pm : Nat → Int64) (o : Nat) (ov : Nat → Int64) (sz : Nat) (i : Nat) (hi : i < n) (hn : n ≤ 15) : Met l y_L_party (.codeWith y_L_party b_L_party 5 (some .int) [(0, 9, 12, 13)] :: wAll) ({ frames := 7, cells := 1, slots := 6, locals := 112 } : Room) (mx_P [.ref (ad 0), .int (nI i), .int (nI 1), .ref o] (dC, dI) vwCl [(cI, .int), (cJ, .long)] ((cb_w ad cI cJ n tc ki ra po se bc bs op pr pe pm) ++ [(o, .inl (cJ, 1, .inr (.inl ov)))]) sz) (va_Qi (fun (z : Int32) (_ : Unit) => z = nI 0) (mu_B (dC, dI) vwCl [(cI, .int), (cJ, .long)] (va_A ((cb_w ad cI cJ n tc ki ra po se bc bs op pr pe pm) ++ [(o, .inl (cJ, 1, .inr (.inl ov)))]) sz) ((cb_w ad cI cJ n tc ki ra po se bc bs op pr pe pm) ++ [(o, .inl (cJ, 1, .inr (.inl (vp_updL ov 0 (se i)))))])) (va_A ((cb_w ad cI cJ n tc ki ra po se bc bs op pr pe pm) ++ [(o, .inl (cJ, 1, .inr (.inl ov)))]) sz)) 1 6 (va_A ((cb_w ad cI cJ n tc ki ra po se bc bs op pr pe pm) ++ [(o, .inl (cJ, 1, .inr (.inl ov)))]) sz) := by
  refine va_MetW (cc := b_L_party) (maxL := 5) (ret := some .int) (hh := [(0, 9, 12, 13)]) (by decide) rfl ?_
  intro p e s m args below meth c s₁ B hml hv
  obtain ⟨rfl, hsz, hP, hK, hD0, hB⟩ := hv
  have hx := B.exec
  have hb := B.bytes
  have hr := B.returns
  have hts0 := atoms_spec (ws := (.codeWith y_L_party b_L_party 5 (some .int) [(0, 9, 12, 13)] :: wAll)) B.pre
  have hts := hts_all hts0
  have hown : s.vm.findClass "ClearingBooksLaw" = some m.cls := findClass_of_methodNamed B.named
  have hlocks := B.notSynchronized
  subst hsz
  have hD := hD0.self (sz := s.heap.size)
  generalize hAe : va_A ((cb_w ad cI cJ n tc ki ra po se bc bs op pr pe pm) ++ [(o, .inl (cJ, 1, .inr (.inl ov)))]) s.heap.size = A at hD ⊢
  have hA : ∀ q : Nat, s.heap.size ≤ q → A q := fun q h => by rw [← hAe]; exact Or.inr h
  have hS : va_S A s.heap s.heap [] := va_S.rf
  have hl := lv_entry ([.ref (ad 0), .int (nI i), .int (nI 1), .ref o]) (n := 5) (Nat.le_of_ble_eq_true rfl)
  rw [lg_entry_eq]
  generalize (lg_sl ([.ref (ad 0), .int (nI i), .int (nI 1), .ref o]) ++ List.replicate (5 - (lg_sl ([.ref (ad 0), .int (nI i), .int (nI 1), .ref o])).length) Slot.unset).toArray = ls at hl ⊢
  have hl : lv_has ls 5 [(0, .ref (ad 0)), (1, .int (nI i)), (2, .int (nI 1)), (3, .ref o)] := hl
  refine lv_aload_n hx hb d_L_party_0 rfl (lv_at hl 3 rfl) ?_
  refine lv_iconst (v := nI 0) hx hb d_L_party_1 (by decide) ?_
  refine lv_aload_n hx hb d_L_party_2 rfl (lv_at hl 0 rfl) ?_
  refine lv_iload_n hx hb d_L_party_3 rfl (lv_at hl 1 rfl) ?_
  refine lv_iload_n hx hb d_L_party_4 rfl (lv_at hl 2 rfl) ?_
  refine ro_call (va_runV (As := [.int (nI i), .int (nI 1)]) (rest := [.int (nI 0), .ref o]) ⟨hx, hb, hml, hown, hts⟩ (c_party_y1 l dC dI ad cI cJ n tc ki ra po se bc bs op pr pe pm i hi hn) (cwV 2 hts (wAll_v kw_257 kw_258 kw_259 kw_1 kw_260) rfl rfl rfl (by decide +kernel) ⟨Nat.le_of_ble_eq_true rfl, Nat.le_of_ble_eq_true rfl⟩) (ro_preV bl_tt hK (P_l hP) (ci := 0) (q0 := 0) rfl rfl (fun _ _ _ => trivial)) rfl rfl hl.1 rfl (lv_room (Nat.le_of_ble_eq_true rfl)) d_L_party_5 ⟨Nat.le_of_ble_eq_true rfl, Nat.le_of_ble_eq_true rfl⟩) ?_
  refine W.eq (g2 := F0 m 8 ls [.long (se i), .int (nI 0), .ref o]) rfl ?_
  refine xa_lastore (f := ov) (x := se i) hx hb hK hP hD hS 11 1 rfl rfl (j := 0) (by omega) (by decide) d_L_party_8 (fun H locs hP hD hS => ?_)
  have hP : va_P (dC, dI) vwCl ((cb_w ad cI cJ n tc ki ra po se bc bs op pr pe pm) ++ [(o, .inl (cJ, 1, .inr (.inl (vp_updL ov 0 (se i)))))]) H := hP
  have hD : va_D A ((cb_w ad cI cJ n tc ki ra po se bc bs op pr pe pm) ++ [(o, .inl (cJ, 1, .inr (.inl (vp_updL ov 0 (se i)))))]) := hD
  refine lv_goto (tgt := 16) hx hb d_L_party_9 (by decide) ?_
  refine lv_iconst (v := nI 0) hx hb d_L_party_16 (by decide) ?_
  refine W.widen (k := 1) (n := 6) (Nat.le_of_ble_eq_true rfl) (Nat.le_of_ble_eq_true rfl) ?_
  exact W.iret (v := nI 0) hx hb hr (fun t ht hW => ⟨⟨nI 0, (), rfl, rfl, by rw [ht]; exact hP, va_K.moved hW.alike hK, hD⟩, hS.F ht⟩) hS.2.2 d_L_party_17
set_option maxHeartbeats 4000000 in
set_option maxRecDepth 100000 in
theorem w_party_y2 (l : Launch) (dC : Nat → ClassId) (dI : Nat → Nat → Nat) (ad : Nat → Nat) (cI cJ : ClassId) (n tc : Nat) (ki ra : Nat → Int32) (po se : Nat → Int64) (bc : Nat → Int32) (bs op : Nat → Int64) (pr pe : Nat → Int32) (pm : Nat → Int64) (o : Nat) (ov : Nat → Int64) (sz : Nat) (i : Nat) (hi : i < n) (hn : n ≤ 15) : Met l y_L_party (.codeWith y_L_party b_L_party 5 (some .int) [(0, 9, 12, 13)] :: wAll) ({ frames := 7, cells := 1, slots := 6, locals := 112 } : Room) (mx_P [.ref (ad 0), .int (nI i), .int (nI 2), .ref o] (dC, dI) vwCl [(cI, .int), (cJ, .long)] ((cb_w ad cI cJ n tc ki ra po se bc bs op pr pe pm) ++ [(o, .inl (cJ, 1, .inr (.inl ov)))]) sz) (va_Qi (fun (z : Int32) (_ : Unit) => z = nI 0) (mu_B (dC, dI) vwCl [(cI, .int), (cJ, .long)] (va_A ((cb_w ad cI cJ n tc ki ra po se bc bs op pr pe pm) ++ [(o, .inl (cJ, 1, .inr (.inl ov)))]) sz) ((cb_w ad cI cJ n tc ki ra po se bc bs op pr pe pm) ++ [(o, .inl (cJ, 1, .inr (.inl (vp_updL ov 0 ((ki i).toInt64)))))])) (va_A ((cb_w ad cI cJ n tc ki ra po se bc bs op pr pe pm) ++ [(o, .inl (cJ, 1, .inr (.inl ov)))]) sz)) 1 6 (va_A ((cb_w ad cI cJ n tc ki ra po se bc bs op pr pe pm) ++ [(o, .inl (cJ, 1, .inr (.inl ov)))]) sz) := by
  refine va_MetW (cc := b_L_party) (maxL := 5) (ret := some .int) (hh := [(0, 9, 12, 13)]) (by decide) rfl ?_
  intro p e s m args below meth c s₁ B hml hv
  obtain ⟨rfl, hsz, hP, hK, hD0, hB⟩ := hv
  have hx := B.exec
  have hb := B.bytes
  have hr := B.returns
  have hts0 := atoms_spec (ws := (.codeWith y_L_party b_L_party 5 (some .int) [(0, 9, 12, 13)] :: wAll)) B.pre
  have hts := hts_all hts0
  have hown : s.vm.findClass "ClearingBooksLaw" = some m.cls := findClass_of_methodNamed B.named
  have hlocks := B.notSynchronized
  subst hsz
  have hD := hD0.self (sz := s.heap.size)
  generalize hAe : va_A ((cb_w ad cI cJ n tc ki ra po se bc bs op pr pe pm) ++ [(o, .inl (cJ, 1, .inr (.inl ov)))]) s.heap.size = A at hD ⊢
  have hA : ∀ q : Nat, s.heap.size ≤ q → A q := fun q h => by rw [← hAe]; exact Or.inr h
  have hS : va_S A s.heap s.heap [] := va_S.rf
  have hl := lv_entry ([.ref (ad 0), .int (nI i), .int (nI 2), .ref o]) (n := 5) (Nat.le_of_ble_eq_true rfl)
  rw [lg_entry_eq]
  generalize (lg_sl ([.ref (ad 0), .int (nI i), .int (nI 2), .ref o]) ++ List.replicate (5 - (lg_sl ([.ref (ad 0), .int (nI i), .int (nI 2), .ref o])).length) Slot.unset).toArray = ls at hl ⊢
  have hl : lv_has ls 5 [(0, .ref (ad 0)), (1, .int (nI i)), (2, .int (nI 2)), (3, .ref o)] := hl
  refine lv_aload_n hx hb d_L_party_0 rfl (lv_at hl 3 rfl) ?_
  refine lv_iconst (v := nI 0) hx hb d_L_party_1 (by decide) ?_
  refine lv_aload_n hx hb d_L_party_2 rfl (lv_at hl 0 rfl) ?_
  refine lv_iload_n hx hb d_L_party_3 rfl (lv_at hl 1 rfl) ?_
  refine lv_iload_n hx hb d_L_party_4 rfl (lv_at hl 2 rfl) ?_
  refine ro_call (va_runV (As := [.int (nI i), .int (nI 2)]) (rest := [.int (nI 0), .ref o]) ⟨hx, hb, hml, hown, hts⟩ (c_party_y2 l dC dI ad cI cJ n tc ki ra po se bc bs op pr pe pm i hi hn) (cwV 2 hts (wAll_v kw_257 kw_258 kw_259 kw_1 kw_260) rfl rfl rfl (by decide +kernel) ⟨Nat.le_of_ble_eq_true rfl, Nat.le_of_ble_eq_true rfl⟩) (ro_preV bl_tt hK (P_l hP) (ci := 0) (q0 := 0) rfl rfl (fun _ _ _ => trivial)) rfl rfl hl.1 rfl (lv_room (Nat.le_of_ble_eq_true rfl)) d_L_party_5 ⟨Nat.le_of_ble_eq_true rfl, Nat.le_of_ble_eq_true rfl⟩) ?_
  refine W.eq (g2 := F0 m 8 ls [.long ((ki i).toInt64), .int (nI 0), .ref o]) rfl ?_
  refine xa_lastore (f := ov) (x := (ki i).toInt64) hx hb hK hP hD hS 11 1 rfl rfl (j := 0) (by omega) (by decide) d_L_party_8 (fun H locs hP hD hS => ?_)
  have hP : va_P (dC, dI) vwCl ((cb_w ad cI cJ n tc ki ra po se bc bs op pr pe pm) ++ [(o, .inl (cJ, 1, .inr (.inl (vp_updL ov 0 ((ki i).toInt64)))))]) H := hP
  have hD : va_D A ((cb_w ad cI cJ n tc ki ra po se bc bs op pr pe pm) ++ [(o, .inl (cJ, 1, .inr (.inl (vp_updL ov 0 ((ki i).toInt64)))))]) := hD
  refine lv_goto (tgt := 16) hx hb d_L_party_9 (by decide) ?_
  refine lv_iconst (v := nI 0) hx hb d_L_party_16 (by decide) ?_
  refine W.widen (k := 1) (n := 6) (Nat.le_of_ble_eq_true rfl) (Nat.le_of_ble_eq_true rfl) ?_
  exact W.iret (v := nI 0) hx hb hr (fun t ht hW => ⟨⟨nI 0, (), rfl, rfl, by rw [ht]; exact hP, va_K.moved hW.alike hK, hD⟩, hS.F ht⟩) hS.2.2 d_L_party_17
set_option maxHeartbeats 4000000 in
set_option maxRecDepth 100000 in
theorem w_party_y3 (l : Launch) (dC : Nat → ClassId) (dI : Nat → Nat → Nat) (ad : Nat → Nat) (cI cJ : ClassId) (n tc : Nat) (ki ra : Nat → Int32) (po se : Nat → Int64) (bc : Nat → Int32) (bs op : Nat → Int64) (pr pe : Nat → Int32) (pm : Nat → Int64) (o : Nat) (ov : Nat → Int64) (sz : Nat) (i : Nat) (hi : i < n) (hn : n ≤ 15) : Met l y_L_party (.codeWith y_L_party b_L_party 5 (some .int) [(0, 9, 12, 13)] :: wAll) ({ frames := 7, cells := 1, slots := 6, locals := 112 } : Room) (mx_P [.ref (ad 0), .int (nI i), .int (nI 3), .ref o] (dC, dI) vwCl [(cI, .int), (cJ, .long)] ((cb_w ad cI cJ n tc ki ra po se bc bs op pr pe pm) ++ [(o, .inl (cJ, 1, .inr (.inl ov)))]) sz) (va_Qi (fun (z : Int32) (_ : Unit) => z = nI 0) (mu_B (dC, dI) vwCl [(cI, .int), (cJ, .long)] (va_A ((cb_w ad cI cJ n tc ki ra po se bc bs op pr pe pm) ++ [(o, .inl (cJ, 1, .inr (.inl ov)))]) sz) ((cb_w ad cI cJ n tc ki ra po se bc bs op pr pe pm) ++ [(o, .inl (cJ, 1, .inr (.inl (vp_updL ov 0 ((ra i).toInt64)))))])) (va_A ((cb_w ad cI cJ n tc ki ra po se bc bs op pr pe pm) ++ [(o, .inl (cJ, 1, .inr (.inl ov)))]) sz)) 1 6 (va_A ((cb_w ad cI cJ n tc ki ra po se bc bs op pr pe pm) ++ [(o, .inl (cJ, 1, .inr (.inl ov)))]) sz) := by
  refine va_MetW (cc := b_L_party) (maxL := 5) (ret := some .int) (hh := [(0, 9, 12, 13)]) (by decide) rfl ?_
  intro p e s m args below meth c s₁ B hml hv
  obtain ⟨rfl, hsz, hP, hK, hD0, hB⟩ := hv
  have hx := B.exec
  have hb := B.bytes
  have hr := B.returns
  have hts0 := atoms_spec (ws := (.codeWith y_L_party b_L_party 5 (some .int) [(0, 9, 12, 13)] :: wAll)) B.pre
  have hts := hts_all hts0
  have hown : s.vm.findClass "ClearingBooksLaw" = some m.cls := findClass_of_methodNamed B.named
  have hlocks := B.notSynchronized
  subst hsz
  have hD := hD0.self (sz := s.heap.size)
  generalize hAe : va_A ((cb_w ad cI cJ n tc ki ra po se bc bs op pr pe pm) ++ [(o, .inl (cJ, 1, .inr (.inl ov)))]) s.heap.size = A at hD ⊢
  have hA : ∀ q : Nat, s.heap.size ≤ q → A q := fun q h => by rw [← hAe]; exact Or.inr h
  have hS : va_S A s.heap s.heap [] := va_S.rf
  have hl := lv_entry ([.ref (ad 0), .int (nI i), .int (nI 3), .ref o]) (n := 5) (Nat.le_of_ble_eq_true rfl)
  rw [lg_entry_eq]
  generalize (lg_sl ([.ref (ad 0), .int (nI i), .int (nI 3), .ref o]) ++ List.replicate (5 - (lg_sl ([.ref (ad 0), .int (nI i), .int (nI 3), .ref o])).length) Slot.unset).toArray = ls at hl ⊢
  have hl : lv_has ls 5 [(0, .ref (ad 0)), (1, .int (nI i)), (2, .int (nI 3)), (3, .ref o)] := hl
  refine lv_aload_n hx hb d_L_party_0 rfl (lv_at hl 3 rfl) ?_
  refine lv_iconst (v := nI 0) hx hb d_L_party_1 (by decide) ?_
  refine lv_aload_n hx hb d_L_party_2 rfl (lv_at hl 0 rfl) ?_
  refine lv_iload_n hx hb d_L_party_3 rfl (lv_at hl 1 rfl) ?_
  refine lv_iload_n hx hb d_L_party_4 rfl (lv_at hl 2 rfl) ?_
  refine ro_call (va_runV (As := [.int (nI i), .int (nI 3)]) (rest := [.int (nI 0), .ref o]) ⟨hx, hb, hml, hown, hts⟩ (c_party_y3 l dC dI ad cI cJ n tc ki ra po se bc bs op pr pe pm i hi hn) (cwV 2 hts (wAll_v kw_257 kw_258 kw_259 kw_1 kw_260) rfl rfl rfl (by decide +kernel) ⟨Nat.le_of_ble_eq_true rfl, Nat.le_of_ble_eq_true rfl⟩) (ro_preV bl_tt hK (P_l hP) (ci := 0) (q0 := 0) rfl rfl (fun _ _ _ => trivial)) rfl rfl hl.1 rfl (lv_room (Nat.le_of_ble_eq_true rfl)) d_L_party_5 ⟨Nat.le_of_ble_eq_true rfl, Nat.le_of_ble_eq_true rfl⟩) ?_
  refine W.eq (g2 := F0 m 8 ls [.long ((ra i).toInt64), .int (nI 0), .ref o]) rfl ?_
  refine xa_lastore (f := ov) (x := (ra i).toInt64) hx hb hK hP hD hS 11 1 rfl rfl (j := 0) (by omega) (by decide) d_L_party_8 (fun H locs hP hD hS => ?_)
  have hP : va_P (dC, dI) vwCl ((cb_w ad cI cJ n tc ki ra po se bc bs op pr pe pm) ++ [(o, .inl (cJ, 1, .inr (.inl (vp_updL ov 0 ((ra i).toInt64)))))]) H := hP
  have hD : va_D A ((cb_w ad cI cJ n tc ki ra po se bc bs op pr pe pm) ++ [(o, .inl (cJ, 1, .inr (.inl (vp_updL ov 0 ((ra i).toInt64)))))]) := hD
  refine lv_goto (tgt := 16) hx hb d_L_party_9 (by decide) ?_
  refine lv_iconst (v := nI 0) hx hb d_L_party_16 (by decide) ?_
  refine W.widen (k := 1) (n := 6) (Nat.le_of_ble_eq_true rfl) (Nat.le_of_ble_eq_true rfl) ?_
  exact W.iret (v := nI 0) hx hb hr (fun t ht hW => ⟨⟨nI 0, (), rfl, rfl, by rw [ht]; exact hP, va_K.moved hW.alike hK, hD⟩, hS.F ht⟩) hS.2.2 d_L_party_17
set_option maxHeartbeats 4000000 in
set_option maxRecDepth 100000 in
theorem w_party_y4 (l : Launch) (dC : Nat → ClassId) (dI : Nat → Nat → Nat) (ad : Nat → Nat) (cI cJ : ClassId) (n tc : Nat) (ki ra : Nat → Int32) (po se : Nat → Int64) (bc : Nat → Int32) (bs op : Nat → Int64) (pr pe : Nat → Int32) (pm : Nat → Int64) (o : Nat) (ov : Nat → Int64) (sz : Nat) (i : Nat) (hi : i < n) (hn : n ≤ 15) : Met l y_L_party (.codeWith y_L_party b_L_party 5 (some .int) [(0, 9, 12, 13)] :: wAll) ({ frames := 7, cells := 1, slots := 6, locals := 112 } : Room) (mx_P [.ref (ad 0), .int (nI i), .int (nI 4), .ref o] (dC, dI) vwCl [(cI, .int), (cJ, .long)] ((cb_w ad cI cJ n tc ki ra po se bc bs op pr pe pm) ++ [(o, .inl (cJ, 1, .inr (.inl ov)))]) sz) (va_Qi (fun (z : Int32) (_ : Unit) => z = nI 0) (mu_B (dC, dI) vwCl [(cI, .int), (cJ, .long)] (va_A ((cb_w ad cI cJ n tc ki ra po se bc bs op pr pe pm) ++ [(o, .inl (cJ, 1, .inr (.inl ov)))]) sz) ((cb_w ad cI cJ n tc ki ra po se bc bs op pr pe pm) ++ [(o, .inl (cJ, 1, .inr (.inl (vp_updL ov 0 ((nI (pl po i n)).toInt64)))))])) (va_A ((cb_w ad cI cJ n tc ki ra po se bc bs op pr pe pm) ++ [(o, .inl (cJ, 1, .inr (.inl ov)))]) sz)) 1 6 (va_A ((cb_w ad cI cJ n tc ki ra po se bc bs op pr pe pm) ++ [(o, .inl (cJ, 1, .inr (.inl ov)))]) sz) := by
  refine va_MetW (cc := b_L_party) (maxL := 5) (ret := some .int) (hh := [(0, 9, 12, 13)]) (by decide) rfl ?_
  intro p e s m args below meth c s₁ B hml hv
  obtain ⟨rfl, hsz, hP, hK, hD0, hB⟩ := hv
  have hx := B.exec
  have hb := B.bytes
  have hr := B.returns
  have hts0 := atoms_spec (ws := (.codeWith y_L_party b_L_party 5 (some .int) [(0, 9, 12, 13)] :: wAll)) B.pre
  have hts := hts_all hts0
  have hown : s.vm.findClass "ClearingBooksLaw" = some m.cls := findClass_of_methodNamed B.named
  have hlocks := B.notSynchronized
  subst hsz
  have hD := hD0.self (sz := s.heap.size)
  generalize hAe : va_A ((cb_w ad cI cJ n tc ki ra po se bc bs op pr pe pm) ++ [(o, .inl (cJ, 1, .inr (.inl ov)))]) s.heap.size = A at hD ⊢
  have hA : ∀ q : Nat, s.heap.size ≤ q → A q := fun q h => by rw [← hAe]; exact Or.inr h
  have hS : va_S A s.heap s.heap [] := va_S.rf
  have hl := lv_entry ([.ref (ad 0), .int (nI i), .int (nI 4), .ref o]) (n := 5) (Nat.le_of_ble_eq_true rfl)
  rw [lg_entry_eq]
  generalize (lg_sl ([.ref (ad 0), .int (nI i), .int (nI 4), .ref o]) ++ List.replicate (5 - (lg_sl ([.ref (ad 0), .int (nI i), .int (nI 4), .ref o])).length) Slot.unset).toArray = ls at hl ⊢
  have hl : lv_has ls 5 [(0, .ref (ad 0)), (1, .int (nI i)), (2, .int (nI 4)), (3, .ref o)] := hl
  refine lv_aload_n hx hb d_L_party_0 rfl (lv_at hl 3 rfl) ?_
  refine lv_iconst (v := nI 0) hx hb d_L_party_1 (by decide) ?_
  refine lv_aload_n hx hb d_L_party_2 rfl (lv_at hl 0 rfl) ?_
  refine lv_iload_n hx hb d_L_party_3 rfl (lv_at hl 1 rfl) ?_
  refine lv_iload_n hx hb d_L_party_4 rfl (lv_at hl 2 rfl) ?_
  refine ro_call (va_runV (As := [.int (nI i), .int (nI 4)]) (rest := [.int (nI 0), .ref o]) ⟨hx, hb, hml, hown, hts⟩ (c_party_y4 l dC dI ad cI cJ n tc ki ra po se bc bs op pr pe pm i hi hn) (cwV 2 hts (wAll_v kw_257 kw_258 kw_259 kw_1 kw_260) rfl rfl rfl (by decide +kernel) ⟨Nat.le_of_ble_eq_true rfl, Nat.le_of_ble_eq_true rfl⟩) (ro_preV bl_tt hK (P_l hP) (ci := 0) (q0 := 0) rfl rfl (fun _ _ _ => trivial)) rfl rfl hl.1 rfl (lv_room (Nat.le_of_ble_eq_true rfl)) d_L_party_5 ⟨Nat.le_of_ble_eq_true rfl, Nat.le_of_ble_eq_true rfl⟩) ?_
  refine W.eq (g2 := F0 m 8 ls [.long ((nI (pl po i n)).toInt64), .int (nI 0), .ref o]) rfl ?_
  refine xa_lastore (f := ov) (x := (nI (pl po i n)).toInt64) hx hb hK hP hD hS 11 1 rfl rfl (j := 0) (by omega) (by decide) d_L_party_8 (fun H locs hP hD hS => ?_)
  have hP : va_P (dC, dI) vwCl ((cb_w ad cI cJ n tc ki ra po se bc bs op pr pe pm) ++ [(o, .inl (cJ, 1, .inr (.inl (vp_updL ov 0 ((nI (pl po i n)).toInt64)))))]) H := hP
  have hD : va_D A ((cb_w ad cI cJ n tc ki ra po se bc bs op pr pe pm) ++ [(o, .inl (cJ, 1, .inr (.inl (vp_updL ov 0 ((nI (pl po i n)).toInt64)))))]) := hD
  refine lv_goto (tgt := 16) hx hb d_L_party_9 (by decide) ?_
  refine lv_iconst (v := nI 0) hx hb d_L_party_16 (by decide) ?_
  refine W.widen (k := 1) (n := 6) (Nat.le_of_ble_eq_true rfl) (Nat.le_of_ble_eq_true rfl) ?_
  exact W.iret (v := nI 0) hx hb hr (fun t ht hW => ⟨⟨nI 0, (), rfl, rfl, by rw [ht]; exact hP, va_K.moved hW.alike hK, hD⟩, hS.F ht⟩) hS.2.2 d_L_party_17
set_option maxHeartbeats 4000000 in
set_option maxRecDepth 100000 in
theorem w_party_tk (l : Launch) (dC : Nat → ClassId) (dI : Nat → Nat → Nat) (ad : Nat → Nat) (cI cJ : ClassId) (n tc : Nat) (ki ra : Nat → Int32) (po se : Nat → Int64) (bc : Nat → Int32) (bs op : Nat → Int64) (pr pe : Nat → Int32) (pm : Nat → Int64) (o : Nat) (ov : Nat → Int64) (sz : Nat) (x k : Int32) (hno : ¬ (¬ x < 0 ∧ x < nI n)) (hl0 : l.stackTraces = false) : Met l y_L_party (.codeWith y_L_party b_L_party 5 (some .int) [(0, 9, 12, 13)] :: wAll) ({ frames := 7, cells := 1, slots := 6, locals := 112 } : Room) (mx_P [.ref (ad 0), .int x, .int k, .ref o] (dC, dI) vwCl [(cI, .int), (cJ, .long)] ((cb_w ad cI cJ n tc ki ra po se bc bs op pr pe pm) ++ [(o, .inl (cJ, 1, .inr (.inl ov)))]) sz) (va_Qi (fun (z : Int32) (_ : Unit) => z = nI 1) (mu_B (dC, dI) vwCl [(cI, .int), (cJ, .long)] (va_A ((cb_w ad cI cJ n tc ki ra po se bc bs op pr pe pm) ++ [(o, .inl (cJ, 1, .inr (.inl ov)))]) sz) ((cb_w ad cI cJ n tc ki ra po se bc bs op pr pe pm) ++ [(o, .inl (cJ, 1, .inr (.inl ov)))])) (va_A ((cb_w ad cI cJ n tc ki ra po se bc bs op pr pe pm) ++ [(o, .inl (cJ, 1, .inr (.inl ov)))]) sz)) 1 6 (va_A ((cb_w ad cI cJ n tc ki ra po se bc bs op pr pe pm) ++ [(o, .inl (cJ, 1, .inr (.inl ov)))]) sz) := by
  refine va_MetW (cc := b_L_party) (maxL := 5) (ret := some .int) (hh := [(0, 9, 12, 13)]) (by decide) rfl ?_
  intro p e s m args below meth c s₁ B hml hv
  obtain ⟨rfl, hsz, hP, hK, hD0, hB⟩ := hv
  have hx := B.exec
  have hb := B.bytes
  have hr := B.returns
  have hts0 := atoms_spec (ws := (.codeWith y_L_party b_L_party 5 (some .int) [(0, 9, 12, 13)] :: wAll)) B.pre
  have hts := hts_all hts0
  have hown : s.vm.findClass "ClearingBooksLaw" = some m.cls := findClass_of_methodNamed B.named
  have hlocks := B.notSynchronized
  subst hsz
  have hD := hD0.self (sz := s.heap.size)
  generalize hAe : va_A ((cb_w ad cI cJ n tc ki ra po se bc bs op pr pe pm) ++ [(o, .inl (cJ, 1, .inr (.inl ov)))]) s.heap.size = A at hD ⊢
  have hA : ∀ q : Nat, s.heap.size ≤ q → A q := fun q h => by rw [← hAe]; exact Or.inr h
  have hS : va_S A s.heap s.heap [] := va_S.rf
  have htab : c.exceptionTable.toList = [⟨0, 9, 12, 13⟩] := xw_table (Stand.of_body B) B.named (hts0 _ List.mem_cons_self)
  have hl := lv_entry ([.ref (ad 0), .int x, .int k, .ref o]) (n := 5) (Nat.le_of_ble_eq_true rfl)
  rw [lg_entry_eq]
  generalize (lg_sl ([.ref (ad 0), .int x, .int k, .ref o]) ++ List.replicate (5 - (lg_sl ([.ref (ad 0), .int x, .int k, .ref o])).length) Slot.unset).toArray = ls at hl ⊢
  have hl : lv_has ls 5 [(0, .ref (ad 0)), (1, .int x), (2, .int k), (3, .ref o)] := hl
  refine lv_aload_n hx hb d_L_party_0 rfl (lv_at hl 3 rfl) ?_
  refine lv_iconst (v := nI 0) hx hb d_L_party_1 (by decide) ?_
  refine lv_aload_n hx hb d_L_party_2 rfl (lv_at hl 0 rfl) ?_
  refine lv_iload_n hx hb d_L_party_3 rfl (lv_at hl 1 rfl) ?_
  refine lv_iload_n hx hb d_L_party_4 rfl (lv_at hl 2 rfl) ?_
  refine xt_catch (name := "java/lang/IllegalArgumentException") (xt_runV (As := [.int x, .int k]) (rest := [.int (nI 0), .ref o]) ⟨hx, hb, hml, hown, hts⟩ (c_party_tk l dC dI ad cI cJ n tc ki ra po se bc bs op pr pe pm x k hno hl0) (cwV 2 hts (wAll_v kw_257 kw_258 kw_259 kw_1 kw_260) rfl rfl rfl (by decide +kernel) ⟨Nat.le_of_ble_eq_true rfl, Nat.le_of_ble_eq_true rfl⟩) (ro_preV bl_xc hK (P_l hP) (ci := 0) (q0 := 0) rfl rfl (fun U hU hW => xc_moved hB hW (fun q _ => by rw [hU]))) rfl rfl hl.1 rfl (lv_room (Nat.le_of_ble_eq_true rfl)) d_L_party_5 ⟨Nat.le_of_ble_eq_true rfl, Nat.le_of_ble_eq_true rfl⟩) hown [] ⟨0, 9, 12, 13⟩ [] htab (fun z hz => by cases hz) (by decide) (by decide) (hts _ kw_94) (hB.2.2.1 _ (List.mem_of_getElem? (l := xc_f) (i := 0) rfl)) (fun q9 H hz9 hk9 => ?_)
  have hS : va_S A s.heap H [] := ⟨hz9, fun q h1 _ => hk9 q h1, fun _ h => by cases h⟩
  have hP : va_P (dC, dI) vwCl ((cb_w ad cI cJ n tc ki ra po se bc bs op pr pe pm) ++ [(o, .inl (cJ, 1, .inr (.inl ov)))]) H := hP.kept (fun k x hx => hk9 x.1 (hP k x hx).lt)
  refine lv_astore (lv' := [(4, .ref q9), (0, .ref (ad 0)), (1, .int x), (2, .int k), (3, .ref o)]) hx hb d_L_party_12 hl (by decide) rfl (fun ls hl => ?_)
  refine lv_iconst (v := nI 1) hx hb d_L_party_14 (by decide) ?_
  refine W.widen (k := 1) (n := 6) (Nat.le_of_ble_eq_true rfl) (Nat.le_of_ble_eq_true rfl) ?_
  exact W.iret (v := nI 1) hx hb hr (fun t ht hW => ⟨⟨nI 1, (), rfl, rfl, by rw [ht]; exact hP, va_K.moved hW.alike hK, hD⟩, hS.F ht⟩) hS.2.2 d_L_party_15
set_option maxHeartbeats 4000000 in
set_option maxRecDepth 100000 in
theorem w_party_tw (l : Launch) (dC : Nat → ClassId) (dI : Nat → Nat → Nat) (ad : Nat → Nat) (cI cJ : ClassId) (n tc : Nat) (ki ra : Nat → Int32) (po se : Nat → Int64) (bc : Nat → Int32) (bs op : Nat → Int64) (pr pe : Nat → Int32) (pm : Nat → Int64) (o : Nat) (ov : Nat → Int64) (sz : Nat) (i : Nat) (k : Int32) (hi : i < n) (hn : n ≤ 15) (hw : k.toInt < 0 ∨ 4 < k.toInt) (hl0 : l.stackTraces = false) : Met l y_L_party (.codeWith y_L_party b_L_party 5 (some .int) [(0, 9, 12, 13)] :: wAll) ({ frames := 7, cells := 1, slots := 6, locals := 112 } : Room) (mx_P [.ref (ad 0), .int (nI i), .int k, .ref o] (dC, dI) vwCl [(cI, .int), (cJ, .long)] ((cb_w ad cI cJ n tc ki ra po se bc bs op pr pe pm) ++ [(o, .inl (cJ, 1, .inr (.inl ov)))]) sz) (va_Qi (fun (z : Int32) (_ : Unit) => z = nI 1) (mu_B (dC, dI) vwCl [(cI, .int), (cJ, .long)] (va_A ((cb_w ad cI cJ n tc ki ra po se bc bs op pr pe pm) ++ [(o, .inl (cJ, 1, .inr (.inl ov)))]) sz) ((cb_w ad cI cJ n tc ki ra po se bc bs op pr pe pm) ++ [(o, .inl (cJ, 1, .inr (.inl ov)))])) (va_A ((cb_w ad cI cJ n tc ki ra po se bc bs op pr pe pm) ++ [(o, .inl (cJ, 1, .inr (.inl ov)))]) sz)) 1 6 (va_A ((cb_w ad cI cJ n tc ki ra po se bc bs op pr pe pm) ++ [(o, .inl (cJ, 1, .inr (.inl ov)))]) sz) := by
  refine va_MetW (cc := b_L_party) (maxL := 5) (ret := some .int) (hh := [(0, 9, 12, 13)]) (by decide) rfl ?_
  intro p e s m args below meth c s₁ B hml hv
  obtain ⟨rfl, hsz, hP, hK, hD0, hB⟩ := hv
  have hx := B.exec
  have hb := B.bytes
  have hr := B.returns
  have hts0 := atoms_spec (ws := (.codeWith y_L_party b_L_party 5 (some .int) [(0, 9, 12, 13)] :: wAll)) B.pre
  have hts := hts_all hts0
  have hown : s.vm.findClass "ClearingBooksLaw" = some m.cls := findClass_of_methodNamed B.named
  have hlocks := B.notSynchronized
  subst hsz
  have hD := hD0.self (sz := s.heap.size)
  generalize hAe : va_A ((cb_w ad cI cJ n tc ki ra po se bc bs op pr pe pm) ++ [(o, .inl (cJ, 1, .inr (.inl ov)))]) s.heap.size = A at hD ⊢
  have hA : ∀ q : Nat, s.heap.size ≤ q → A q := fun q h => by rw [← hAe]; exact Or.inr h
  have hS : va_S A s.heap s.heap [] := va_S.rf
  have htab : c.exceptionTable.toList = [⟨0, 9, 12, 13⟩] := xw_table (Stand.of_body B) B.named (hts0 _ List.mem_cons_self)
  have hl := lv_entry ([.ref (ad 0), .int (nI i), .int k, .ref o]) (n := 5) (Nat.le_of_ble_eq_true rfl)
  rw [lg_entry_eq]
  generalize (lg_sl ([.ref (ad 0), .int (nI i), .int k, .ref o]) ++ List.replicate (5 - (lg_sl ([.ref (ad 0), .int (nI i), .int k, .ref o])).length) Slot.unset).toArray = ls at hl ⊢
  have hl : lv_has ls 5 [(0, .ref (ad 0)), (1, .int (nI i)), (2, .int k), (3, .ref o)] := hl
  refine lv_aload_n hx hb d_L_party_0 rfl (lv_at hl 3 rfl) ?_
  refine lv_iconst (v := nI 0) hx hb d_L_party_1 (by decide) ?_
  refine lv_aload_n hx hb d_L_party_2 rfl (lv_at hl 0 rfl) ?_
  refine lv_iload_n hx hb d_L_party_3 rfl (lv_at hl 1 rfl) ?_
  refine lv_iload_n hx hb d_L_party_4 rfl (lv_at hl 2 rfl) ?_
  refine xt_catch (name := "java/lang/IllegalArgumentException") (xt_runV (As := [.int (nI i), .int k]) (rest := [.int (nI 0), .ref o]) ⟨hx, hb, hml, hown, hts⟩ (c_party_tw l dC dI ad cI cJ n tc ki ra po se bc bs op pr pe pm i k hi hn hw hl0) (cwV 2 hts (wAll_v kw_257 kw_258 kw_259 kw_1 kw_260) rfl rfl rfl (by decide +kernel) ⟨Nat.le_of_ble_eq_true rfl, Nat.le_of_ble_eq_true rfl⟩) (ro_preV bl_xc hK (P_l hP) (ci := 0) (q0 := 0) rfl rfl (fun U hU hW => xc_moved hB hW (fun q _ => by rw [hU]))) rfl rfl hl.1 rfl (lv_room (Nat.le_of_ble_eq_true rfl)) d_L_party_5 ⟨Nat.le_of_ble_eq_true rfl, Nat.le_of_ble_eq_true rfl⟩) hown [] ⟨0, 9, 12, 13⟩ [] htab (fun z hz => by cases hz) (by decide) (by decide) (hts _ kw_94) (hB.2.2.1 _ (List.mem_of_getElem? (l := xc_f) (i := 0) rfl)) (fun q9 H hz9 hk9 => ?_)
  have hS : va_S A s.heap H [] := ⟨hz9, fun q h1 _ => hk9 q h1, fun _ h => by cases h⟩
  have hP : va_P (dC, dI) vwCl ((cb_w ad cI cJ n tc ki ra po se bc bs op pr pe pm) ++ [(o, .inl (cJ, 1, .inr (.inl ov)))]) H := hP.kept (fun k x hx => hk9 x.1 (hP k x hx).lt)
  refine lv_astore (lv' := [(4, .ref q9), (0, .ref (ad 0)), (1, .int (nI i)), (2, .int k), (3, .ref o)]) hx hb d_L_party_12 hl (by decide) rfl (fun ls hl => ?_)
  refine lv_iconst (v := nI 1) hx hb d_L_party_14 (by decide) ?_
  refine W.widen (k := 1) (n := 6) (Nat.le_of_ble_eq_true rfl) (Nat.le_of_ble_eq_true rfl) ?_
  exact W.iret (v := nI 1) hx hb hr (fun t ht hW => ⟨⟨nI 1, (), rfl, rfl, by rw [ht]; exact hP, va_K.moved hW.alike hK, hD⟩, hS.F ht⟩) hS.2.2 d_L_party_15
