set_option maxHeartbeats 4000000 in
set_option maxRecDepth 100000 in
theorem w_acquirer_y (l : Launch) (dC : Nat → ClassId) (dI : Nat → Nat → Nat) (ad : Nat → Nat) (cI cJ : ClassId) (n tc : Nat) (ki ra : Nat → Int32) (po se : Nat → Int64) (bc : Nat → Int32) (bs op : Nat → Int64) (pr pe : Nat → Int32) (pm : Nat → Int64) (o : Nat) (ov : Nat → Int64) (sz : Nat) (r : Nat) (hr0 : r ≤ 1000) (hn : n < 15) : Met l y_L_acquirer (.codeWith y_L_acquirer b_L_acquirer 4 (some .int) [(0, 9, 12, 13), (0, 9, 15, 15)] :: wAll) ({ frames := 8, cells := 1, slots := 6, locals := 134 } : Room) (mx_P [.ref (ad 0), .int (nI r), .ref o] (dC, dI) vwCl [(cI, .int), (cJ, .long)] ((cb_w ad cI cJ n tc ki ra po se bc bs op pr pe pm) ++ [(o, .inl (cJ, 1, .inr (.inl ov)))]) sz) (va_Qi (fun (z : Int32) (_ : Unit) => z = nI 0) (mu_B (dC, dI) vwCl [(cI, .int), (cJ, .long)] (va_A ((cb_w ad cI cJ n tc ki ra po se bc bs op pr pe pm) ++ [(o, .inl (cJ, 1, .inr (.inl ov)))]) sz) ((cb_w ad cI cJ (n + 1) tc (upd ki n (nI 1)) (upd ra n (nI r)) po se bc bs op pr pe pm) ++ [(o, .inl (cJ, 1, .inr (.inl (vp_updL ov 0 ((nI n).toInt64)))))])) (va_A ((cb_w ad cI cJ n tc ki ra po se bc bs op pr pe pm) ++ [(o, .inl (cJ, 1, .inr (.inl ov)))]) sz)) 1 6 (va_A ((cb_w ad cI cJ n tc ki ra po se bc bs op pr pe pm) ++ [(o, .inl (cJ, 1, .inr (.inl ov)))]) sz) := by
  refine va_MetW (cc := b_L_acquirer) (maxL := 4) (ret := some .int) (hh := [(0, 9, 12, 13), (0, 9, 15, 15)]) (by decide) rfl ?_
  intro p e s m args below meth c s₁ B hml hv
  obtain ⟨rfl, hsz, hP, hK, hD0, hB⟩ := hv
  have hx := B.exec
  have hb := B.bytes
  have hr := B.returns
  have hts0 := atoms_spec (ws := (.codeWith y_L_acquirer b_L_acquirer 4 (some .int) [(0, 9, 12, 13), (0, 9, 15, 15)] :: wAll)) B.pre
  have hts := hts_all hts0
  have hown : s.vm.findClass "ClearingBooksLaw" = some m.cls := findClass_of_methodNamed B.named
  have hlocks := B.notSynchronized
  subst hsz
  have hD := hD0.self (sz := s.heap.size)
  generalize hAe : va_A ((cb_w ad cI cJ n tc ki ra po se bc bs op pr pe pm) ++ [(o, .inl (cJ, 1, .inr (.inl ov)))]) s.heap.size = A at hD ⊢
  have hA : ∀ q : Nat, s.heap.size ≤ q → A q := fun q h => by rw [← hAe]; exact Or.inr h
  have hS : va_S A s.heap s.heap [] := va_S.rf
  have hl := lv_entry ([.ref (ad 0), .int (nI r), .ref o]) (n := 4) (Nat.le_of_ble_eq_true rfl)
  rw [lg_entry_eq]
  generalize (lg_sl ([.ref (ad 0), .int (nI r), .ref o]) ++ List.replicate (4 - (lg_sl ([.ref (ad 0), .int (nI r), .ref o])).length) Slot.unset).toArray = ls at hl ⊢
  have hl : lv_has ls 4 [(0, .ref (ad 0)), (1, .int (nI r)), (2, .ref o)] := hl
  refine lv_aload_n hx hb d_L_acquirer_0 rfl (lv_at hl 2 rfl) ?_
  refine lv_iconst (v := nI 0) hx hb d_L_acquirer_1 (by decide) ?_
  refine lv_aload_n hx hb d_L_acquirer_2 rfl (lv_at hl 0 rfl) ?_
  refine lv_iload_n hx hb d_L_acquirer_3 rfl (lv_at hl 1 rfl) ?_
  refine ml_calli (va_runV (As := [.int (nI r)]) (rest := [.int (nI 0), .ref o]) ⟨hx, hb, hml, hown, hts⟩ (c_acquirer_y l dC dI ad cI cJ n tc ki ra po se bc bs op pr pe pm _ r hr0 hn) (cwV 1 hts (wAll_v kw_96 kw_97 kw_98 kw_1 kw_99) rfl rfl rfl (by decide +kernel) ⟨Nat.le_of_ble_eq_true rfl, Nat.le_of_ble_eq_true rfl⟩) (mu_preV hK (P_l hP) (D_l hD) (ci := 0) (q0 := 0) rfl rfl) rfl rfl hl.1 rfl (lv_room (Nat.le_of_ble_eq_true rfl)) d_L_acquirer_4 ⟨Nat.le_of_ble_eq_true rfl, Nat.le_of_ble_eq_true rfl⟩) hP hD hS hA (fun z9 H locs hq hP hD hS => ?_)
  obtain rfl := hq
  have hP : va_P (dC, dI) vwCl ((cb_w ad cI cJ (n + 1) tc (upd ki n (nI 1)) (upd ra n (nI r)) po se bc bs op pr pe pm) ++ [(o, .inl (cJ, 1, .inr (.inl ov)))]) H := hP
  have hD : va_D A ((cb_w ad cI cJ (n + 1) tc (upd ki n (nI 1)) (upd ra n (nI r)) po se bc bs op pr pe pm) ++ [(o, .inl (cJ, 1, .inr (.inl ov)))]) := hD
  refine lv_i2l (v := (nI n).toInt64) hx hb d_L_acquirer_7 rfl ?_
  refine xa_lastore (f := ov) (x := (nI n).toInt64) hx hb hK hP hD hS 11 1 rfl rfl (j := 0) (by omega) (by decide) d_L_acquirer_8 (fun H locs hP hD hS => ?_)
  have hP : va_P (dC, dI) vwCl ((cb_w ad cI cJ (n + 1) tc (upd ki n (nI 1)) (upd ra n (nI r)) po se bc bs op pr pe pm) ++ [(o, .inl (cJ, 1, .inr (.inl (vp_updL ov 0 ((nI n).toInt64)))))]) H := hP
  have hD : va_D A ((cb_w ad cI cJ (n + 1) tc (upd ki n (nI 1)) (upd ra n (nI r)) po se bc bs op pr pe pm) ++ [(o, .inl (cJ, 1, .inr (.inl (vp_updL ov 0 ((nI n).toInt64)))))]) := hD
  refine lv_goto (tgt := 18) hx hb d_L_acquirer_9 (by decide) ?_
  refine lv_iconst (v := nI 0) hx hb d_L_acquirer_18 (by decide) ?_
  refine W.widen (k := 1) (n := 6) (Nat.le_of_ble_eq_true rfl) (Nat.le_of_ble_eq_true rfl) ?_
  exact W.iret (v := nI 0) hx hb hr (fun t ht hW => ⟨⟨nI 0, (), rfl, rfl, by rw [ht]; exact hP, va_K.moved hW.alike hK, hD⟩, hS.F ht⟩) hS.2.2 d_L_acquirer_19
set_option maxHeartbeats 4000000 in
set_option maxRecDepth 100000 in
theorem w_acquirer_ta (l : Launch) (dC : Nat → ClassId) (dI : Nat → Nat → Nat) (ad : Nat → Nat) (cI cJ : ClassId) (n tc : Nat) (ki ra : Nat → Int32) (po se : Nat → Int64) (bc : Nat → Int32) (bs op : Nat → Int64) (pr pe : Nat → Int32) (pm : Nat → Int64) (o : Nat) (ov : Nat → Int64) (sz : Nat) (x : Int32) (hno : ¬ (¬ x < 0 ∧ x ≤ nI 1000)) (hl0 : l.stackTraces = false) : Met l y_L_acquirer (.codeWith y_L_acquirer b_L_acquirer 4 (some .int) [(0, 9, 12, 13), (0, 9, 15, 15)] :: wAll) ({ frames := 8, cells := 1, slots := 6, locals := 134 } : Room) (mx_P [.ref (ad 0), .int x, .ref o] (dC, dI) vwCl [(cI, .int), (cJ, .long)] ((cb_w ad cI cJ n tc ki ra po se bc bs op pr pe pm) ++ [(o, .inl (cJ, 1, .inr (.inl ov)))]) sz) (va_Qi (fun (z : Int32) (_ : Unit) => z = nI 1) (mu_B (dC, dI) vwCl [(cI, .int), (cJ, .long)] (va_A ((cb_w ad cI cJ n tc ki ra po se bc bs op pr pe pm) ++ [(o, .inl (cJ, 1, .inr (.inl ov)))]) sz) ((cb_w ad cI cJ n tc ki ra po se bc bs op pr pe pm) ++ [(o, .inl (cJ, 1, .inr (.inl ov)))])) (va_A ((cb_w ad cI cJ n tc ki ra po se bc bs op pr pe pm) ++ [(o, .inl (cJ, 1, .inr (.inl ov)))]) sz)) 1 6 (va_A ((cb_w ad cI cJ n tc ki ra po se bc bs op pr pe pm) ++ [(o, .inl (cJ, 1, .inr (.inl ov)))]) sz) := by
  refine va_MetW (cc := b_L_acquirer) (maxL := 4) (ret := some .int) (hh := [(0, 9, 12, 13), (0, 9, 15, 15)]) (by decide) rfl ?_
  intro p e s m args below meth c s₁ B hml hv
  obtain ⟨rfl, hsz, hP, hK, hD0, hB⟩ := hv
  have hx := B.exec
  have hb := B.bytes
  have hr := B.returns
  have hts0 := atoms_spec (ws := (.codeWith y_L_acquirer b_L_acquirer 4 (some .int) [(0, 9, 12, 13), (0, 9, 15, 15)] :: wAll)) B.pre
  have hts := hts_all hts0
  have hown : s.vm.findClass "ClearingBooksLaw" = some m.cls := findClass_of_methodNamed B.named
  have hlocks := B.notSynchronized
  subst hsz
  have hD := hD0.self (sz := s.heap.size)
  generalize hAe : va_A ((cb_w ad cI cJ n tc ki ra po se bc bs op pr pe pm) ++ [(o, .inl (cJ, 1, .inr (.inl ov)))]) s.heap.size = A at hD ⊢
  have hA : ∀ q : Nat, s.heap.size ≤ q → A q := fun q h => by rw [← hAe]; exact Or.inr h
  have hS : va_S A s.heap s.heap [] := va_S.rf
  have htab : c.exceptionTable.toList = [⟨0, 9, 12, 13⟩, ⟨0, 9, 15, 15⟩] := xw_table (Stand.of_body B) B.named (hts0 _ List.mem_cons_self)
  have hl := lv_entry ([.ref (ad 0), .int x, .ref o]) (n := 4) (Nat.le_of_ble_eq_true rfl)
  rw [lg_entry_eq]
  generalize (lg_sl ([.ref (ad 0), .int x, .ref o]) ++ List.replicate (4 - (lg_sl ([.ref (ad 0), .int x, .ref o])).length) Slot.unset).toArray = ls at hl ⊢
  have hl : lv_has ls 4 [(0, .ref (ad 0)), (1, .int x), (2, .ref o)] := hl
  refine lv_aload_n hx hb d_L_acquirer_0 rfl (lv_at hl 2 rfl) ?_
  refine lv_iconst (v := nI 0) hx hb d_L_acquirer_1 (by decide) ?_
  refine lv_aload_n hx hb d_L_acquirer_2 rfl (lv_at hl 0 rfl) ?_
  refine lv_iload_n hx hb d_L_acquirer_3 rfl (lv_at hl 1 rfl) ?_
  refine xt_catch (name := "java/lang/IllegalArgumentException") (xt_runV (As := [.int x]) (rest := [.int (nI 0), .ref o]) ⟨hx, hb, hml, hown, hts⟩ (c_acquirer_ta l dC dI ad cI cJ n tc ki ra po se bc bs op pr pe pm x hno hl0) (cwV 1 hts (wAll_v kw_96 kw_97 kw_98 kw_1 kw_99) rfl rfl rfl (by decide +kernel) ⟨Nat.le_of_ble_eq_true rfl, Nat.le_of_ble_eq_true rfl⟩) (ro_preV bl_xc hK (P_l hP) (ci := 0) (q0 := 0) rfl rfl (fun U hU hW => xc_moved hB hW (fun q _ => by rw [hU]))) rfl rfl hl.1 rfl (lv_room (Nat.le_of_ble_eq_true rfl)) d_L_acquirer_4 ⟨Nat.le_of_ble_eq_true rfl, Nat.le_of_ble_eq_true rfl⟩) hown [] ⟨0, 9, 12, 13⟩ [⟨0, 9, 15, 15⟩] htab (fun z hz => by cases hz) (by decide) (by decide) (hts _ kw_94) (hB.2.2.1 _ (List.mem_of_getElem? (l := xc_f) (i := 0) rfl)) (fun q9 H hz9 hk9 => ?_)
  have hS : va_S A s.heap H [] := ⟨hz9, fun q h1 _ => hk9 q h1, fun _ h => by cases h⟩
  have hP : va_P (dC, dI) vwCl ((cb_w ad cI cJ n tc ki ra po se bc bs op pr pe pm) ++ [(o, .inl (cJ, 1, .inr (.inl ov)))]) H := hP.kept (fun k x hx => hk9 x.1 (hP k x hx).lt)
  refine lv_astore_n (lv' := [(3, .ref q9), (0, .ref (ad 0)), (1, .int x), (2, .ref o)]) hx hb d_L_acquirer_12 rfl hl (by decide) rfl (fun ls hl => ?_)
  refine lv_iconst (v := nI 1) hx hb d_L_acquirer_13 (by decide) ?_
  refine W.widen (k := 1) (n := 6) (Nat.le_of_ble_eq_true rfl) (Nat.le_of_ble_eq_true rfl) ?_
  exact W.iret (v := nI 1) hx hb hr (fun t ht hW => ⟨⟨nI 1, (), rfl, rfl, by rw [ht]; exact hP, va_K.moved hW.alike hK, hD⟩, hS.F ht⟩) hS.2.2 d_L_acquirer_14
set_option maxHeartbeats 4000000 in
set_option maxRecDepth 100000 in
theorem w_acquirer_ts (l : Launch) (dC : Nat → ClassId) (dI : Nat → Nat → Nat) (ad : Nat → Nat) (cI cJ : ClassId) (n tc : Nat) (ki ra : Nat → Int32) (po se : Nat → Int64) (bc : Nat → Int32) (bs op : Nat → Int64) (pr pe : Nat → Int32) (pm : Nat → Int64) (o : Nat) (ov : Nat → Int64) (sz : Nat) (r : Nat) (hr0 : r ≤ 1000) (hn : n = 15) (hl0 : l.stackTraces = false) : Met l y_L_acquirer (.codeWith y_L_acquirer b_L_acquirer 4 (some .int) [(0, 9, 12, 13), (0, 9, 15, 15)] :: wAll) ({ frames := 8, cells := 1, slots := 6, locals := 134 } : Room) (mx_P [.ref (ad 0), .int (nI r), .ref o] (dC, dI) vwCl [(cI, .int), (cJ, .long)] ((cb_w ad cI cJ n tc ki ra po se bc bs op pr pe pm) ++ [(o, .inl (cJ, 1, .inr (.inl ov)))]) sz) (va_Qi (fun (z : Int32) (_ : Unit) => z = nI 2) (mu_B (dC, dI) vwCl [(cI, .int), (cJ, .long)] (va_A ((cb_w ad cI cJ n tc ki ra po se bc bs op pr pe pm) ++ [(o, .inl (cJ, 1, .inr (.inl ov)))]) sz) ((cb_w ad cI cJ n tc ki ra po se bc bs op pr pe pm) ++ [(o, .inl (cJ, 1, .inr (.inl ov)))])) (va_A ((cb_w ad cI cJ n tc ki ra po se bc bs op pr pe pm) ++ [(o, .inl (cJ, 1, .inr (.inl ov)))]) sz)) 1 6 (va_A ((cb_w ad cI cJ n tc ki ra po se bc bs op pr pe pm) ++ [(o, .inl (cJ, 1, .inr (.inl ov)))]) sz) := by
  refine va_MetW (cc := b_L_acquirer) (maxL := 4) (ret := some .int) (hh := [(0, 9, 12, 13), (0, 9, 15, 15)]) (by decide) rfl ?_
  intro p e s m args below meth c s₁ B hml hv
  obtain ⟨rfl, hsz, hP, hK, hD0, hB⟩ := hv
  have hx := B.exec
  have hb := B.bytes
  have hr := B.returns
  have hts0 := atoms_spec (ws := (.codeWith y_L_acquirer b_L_acquirer 4 (some .int) [(0, 9, 12, 13), (0, 9, 15, 15)] :: wAll)) B.pre
  have hts := hts_all hts0
  have hown : s.vm.findClass "ClearingBooksLaw" = some m.cls := findClass_of_methodNamed B.named
  have hlocks := B.notSynchronized
  subst hsz
  have hD := hD0.self (sz := s.heap.size)
  generalize hAe : va_A ((cb_w ad cI cJ n tc ki ra po se bc bs op pr pe pm) ++ [(o, .inl (cJ, 1, .inr (.inl ov)))]) s.heap.size = A at hD ⊢
  have hA : ∀ q : Nat, s.heap.size ≤ q → A q := fun q h => by rw [← hAe]; exact Or.inr h
  have hS : va_S A s.heap s.heap [] := va_S.rf
  have htab : c.exceptionTable.toList = [⟨0, 9, 12, 13⟩, ⟨0, 9, 15, 15⟩] := xw_table (Stand.of_body B) B.named (hts0 _ List.mem_cons_self)
  have hl := lv_entry ([.ref (ad 0), .int (nI r), .ref o]) (n := 4) (Nat.le_of_ble_eq_true rfl)
  rw [lg_entry_eq]
  generalize (lg_sl ([.ref (ad 0), .int (nI r), .ref o]) ++ List.replicate (4 - (lg_sl ([.ref (ad 0), .int (nI r), .ref o])).length) Slot.unset).toArray = ls at hl ⊢
  have hl : lv_has ls 4 [(0, .ref (ad 0)), (1, .int (nI r)), (2, .ref o)] := hl
  refine lv_aload_n hx hb d_L_acquirer_0 rfl (lv_at hl 2 rfl) ?_
  refine lv_iconst (v := nI 0) hx hb d_L_acquirer_1 (by decide) ?_
  refine lv_aload_n hx hb d_L_acquirer_2 rfl (lv_at hl 0 rfl) ?_
  refine lv_iload_n hx hb d_L_acquirer_3 rfl (lv_at hl 1 rfl) ?_
  refine xt_catch (name := "java/lang/IllegalStateException") (xt_runV (As := [.int (nI r)]) (rest := [.int (nI 0), .ref o]) ⟨hx, hb, hml, hown, hts⟩ (c_acquirer_ts l dC dI ad cI cJ n tc ki ra po se bc bs op pr pe pm r hr0 hn hl0) (cwV 1 hts (wAll_v kw_96 kw_97 kw_98 kw_1 kw_99) rfl rfl rfl (by decide +kernel) ⟨Nat.le_of_ble_eq_true rfl, Nat.le_of_ble_eq_true rfl⟩) (ro_preV bl_xc hK (P_l hP) (ci := 0) (q0 := 0) rfl rfl (fun U hU hW => xc_moved hB hW (fun q _ => by rw [hU]))) rfl rfl hl.1 rfl (lv_room (Nat.le_of_ble_eq_true rfl)) d_L_acquirer_4 ⟨Nat.le_of_ble_eq_true rfl, Nat.le_of_ble_eq_true rfl⟩) hown [⟨0, 9, 12, 13⟩] ⟨0, 9, 15, 15⟩ [] htab (fun z hz => by rw [List.mem_singleton.mp hz]; exact Or.inr ⟨by decide, "java/lang/IllegalArgumentException", hts _ kw_94, hB.2.2.2⟩) (by decide) (by decide) (hts _ kw_95) (hB.2.2.1 _ (List.mem_of_getElem? (l := xc_f) (i := 1) rfl)) (fun q9 H hz9 hk9 => ?_)
  have hS : va_S A s.heap H [] := ⟨hz9, fun q h1 _ => hk9 q h1, fun _ h => by cases h⟩
  have hP : va_P (dC, dI) vwCl ((cb_w ad cI cJ n tc ki ra po se bc bs op pr pe pm) ++ [(o, .inl (cJ, 1, .inr (.inl ov)))]) H := hP.kept (fun k x hx => hk9 x.1 (hP k x hx).lt)
  refine lv_astore_n (lv' := [(3, .ref q9), (0, .ref (ad 0)), (1, .int (nI r)), (2, .ref o)]) hx hb d_L_acquirer_15 rfl hl (by decide) rfl (fun ls hl => ?_)
  refine lv_iconst (v := nI 2) hx hb d_L_acquirer_16 (by decide) ?_
  refine W.widen (k := 1) (n := 6) (Nat.le_of_ble_eq_true rfl) (Nat.le_of_ble_eq_true rfl) ?_
  exact W.iret (v := nI 2) hx hb hr (fun t ht hW => ⟨⟨nI 2, (), rfl, rfl, by rw [ht]; exact hP, va_K.moved hW.alike hK, hD⟩, hS.F ht⟩) hS.2.2 d_L_acquirer_17
set_option maxHeartbeats 4000000 in
set_option maxRecDepth 100000 in
theorem w_issuer_y (l : Launch) (dC : Nat → ClassId) (dI : Nat → Nat → Nat) (ad : Nat → Nat) (cI cJ : ClassId) (n tc : Nat) (ki ra : Nat → Int32) (po se : Nat → Int64) (bc : Nat → Int32) (bs op : Nat → Int64) (pr pe : Nat → Int32) (pm : Nat → Int64) (o : Nat) (ov : Nat → Int64) (sz : Nat) (r : Nat) (hr0 : r ≤ 1000) (hn : n < 15) : Met l y_L_issuer (.codeWith y_L_issuer b_L_issuer 4 (some .int) [(0, 9, 12, 13), (0, 9, 15, 15)] :: wAll) ({ frames := 8, cells := 1, slots := 6, locals := 134 } : Room) (mx_P [.ref (ad 0), .int (nI r), .ref o] (dC, dI) vwCl [(cI, .int), (cJ, .long)] ((cb_w ad cI cJ n tc ki ra po se bc bs op pr pe pm) ++ [(o, .inl (cJ, 1, .inr (.inl ov)))]) sz) (va_Qi (fun (z : Int32) (_ : Unit) => z = nI 0) (mu_B (dC, dI) vwCl [(cI, .int), (cJ, .long)] (va_A ((cb_w ad cI cJ n tc ki ra po se bc bs op pr pe pm) ++ [(o, .inl (cJ, 1, .inr (.inl ov)))]) sz) ((cb_w ad cI cJ (n + 1) tc (upd ki n (nI 2)) (upd ra n (nI r)) po se bc bs op pr pe pm) ++ [(o, .inl (cJ, 1, .inr (.inl (vp_updL ov 0 ((nI n).toInt64)))))])) (va_A ((cb_w ad cI cJ n tc ki ra po se bc bs op pr pe pm) ++ [(o, .inl (cJ, 1, .inr (.inl ov)))]) sz)) 1 6 (va_A ((cb_w ad cI cJ n tc ki ra po se bc bs op pr pe pm) ++ [(o, .inl (cJ, 1, .inr (.inl ov)))]) sz) := by
  refine va_MetW (cc := b_L_issuer) (maxL := 4) (ret := some .int) (hh := [(0, 9, 12, 13), (0, 9, 15, 15)]) (by decide) rfl ?_
  intro p e s m args below meth c s₁ B hml hv
  obtain ⟨rfl, hsz, hP, hK, hD0, hB⟩ := hv
  have hx := B.exec
  have hb := B.bytes
  have hr := B.returns
  have hts0 := atoms_spec (ws := (.codeWith y_L_issuer b_L_issuer 4 (some .int) [(0, 9, 12, 13), (0, 9, 15, 15)] :: wAll)) B.pre
  have hts := hts_all hts0
  have hown : s.vm.findClass "ClearingBooksLaw" = some m.cls := findClass_of_methodNamed B.named
  have hlocks := B.notSynchronized
  subst hsz
  have hD := hD0.self (sz := s.heap.size)
  generalize hAe : va_A ((cb_w ad cI cJ n tc ki ra po se bc bs op pr pe pm) ++ [(o, .inl (cJ, 1, .inr (.inl ov)))]) s.heap.size = A at hD ⊢
  have hA : ∀ q : Nat, s.heap.size ≤ q → A q := fun q h => by rw [← hAe]; exact Or.inr h
  have hS : va_S A s.heap s.heap [] := va_S.rf
  have hl := lv_entry ([.ref (ad 0), .int (nI r), .ref o]) (n := 4) (Nat.le_of_ble_eq_true rfl)
  rw [lg_entry_eq]
  generalize (lg_sl ([.ref (ad 0), .int (nI r), .ref o]) ++ List.replicate (4 - (lg_sl ([.ref (ad 0), .int (nI r), .ref o])).length) Slot.unset).toArray = ls at hl ⊢
  have hl : lv_has ls 4 [(0, .ref (ad 0)), (1, .int (nI r)), (2, .ref o)] := hl
  refine lv_aload_n hx hb d_L_issuer_0 rfl (lv_at hl 2 rfl) ?_
  refine lv_iconst (v := nI 0) hx hb d_L_issuer_1 (by decide) ?_
  refine lv_aload_n hx hb d_L_issuer_2 rfl (lv_at hl 0 rfl) ?_
  refine lv_iload_n hx hb d_L_issuer_3 rfl (lv_at hl 1 rfl) ?_
  refine ml_calli (va_runV (As := [.int (nI r)]) (rest := [.int (nI 0), .ref o]) ⟨hx, hb, hml, hown, hts⟩ (c_issuer_y l dC dI ad cI cJ n tc ki ra po se bc bs op pr pe pm _ r hr0 hn) (cwV 1 hts (wAll_v kw_190 kw_191 kw_192 kw_1 kw_193) rfl rfl rfl (by decide +kernel) ⟨Nat.le_of_ble_eq_true rfl, Nat.le_of_ble_eq_true rfl⟩) (mu_preV hK (P_l hP) (D_l hD) (ci := 0) (q0 := 0) rfl rfl) rfl rfl hl.1 rfl (lv_room (Nat.le_of_ble_eq_true rfl)) d_L_issuer_4 ⟨Nat.le_of_ble_eq_true rfl, Nat.le_of_ble_eq_true rfl⟩) hP hD hS hA (fun z9 H locs hq hP hD hS => ?_)
  obtain rfl := hq
  have hP : va_P (dC, dI) vwCl ((cb_w ad cI cJ (n + 1) tc (upd ki n (nI 2)) (upd ra n (nI r)) po se bc bs op pr pe pm) ++ [(o, .inl (cJ, 1, .inr (.inl ov)))]) H := hP
  have hD : va_D A ((cb_w ad cI cJ (n + 1) tc (upd ki n (nI 2)) (upd ra n (nI r)) po se bc bs op pr pe pm) ++ [(o, .inl (cJ, 1, .inr (.inl ov)))]) := hD
  refine lv_i2l (v := (nI n).toInt64) hx hb d_L_issuer_7 rfl ?_
  refine xa_lastore (f := ov) (x := (nI n).toInt64) hx hb hK hP hD hS 11 1 rfl rfl (j := 0) (by omega) (by decide) d_L_issuer_8 (fun H locs hP hD hS => ?_)
  have hP : va_P (dC, dI) vwCl ((cb_w ad cI cJ (n + 1) tc (upd ki n (nI 2)) (upd ra n (nI r)) po se bc bs op pr pe pm) ++ [(o, .inl (cJ, 1, .inr (.inl (vp_updL ov 0 ((nI n).toInt64)))))]) H := hP
  have hD : va_D A ((cb_w ad cI cJ (n + 1) tc (upd ki n (nI 2)) (upd ra n (nI r)) po se bc bs op pr pe pm) ++ [(o, .inl (cJ, 1, .inr (.inl (vp_updL ov 0 ((nI n).toInt64)))))]) := hD
  refine lv_goto (tgt := 18) hx hb d_L_issuer_9 (by decide) ?_
  refine lv_iconst (v := nI 0) hx hb d_L_issuer_18 (by decide) ?_
  refine W.widen (k := 1) (n := 6) (Nat.le_of_ble_eq_true rfl) (Nat.le_of_ble_eq_true rfl) ?_
  exact W.iret (v := nI 0) hx hb hr (fun t ht hW => ⟨⟨nI 0, (), rfl, rfl, by rw [ht]; exact hP, va_K.moved hW.alike hK, hD⟩, hS.F ht⟩) hS.2.2 d_L_issuer_19
set_option maxHeartbeats 4000000 in
set_option maxRecDepth 100000 in
theorem w_issuer_ta (l : Launch) (dC : Nat → ClassId) (dI : Nat → Nat → Nat) (ad : Nat → Nat) (cI cJ : ClassId) (n tc : Nat) (ki ra : Nat → Int32) (po se : Nat → Int64) (bc : Nat → Int32) (bs op : Nat → Int64) (pr pe : Nat → Int32) (pm : Nat → Int64) (o : Nat) (ov : Nat → Int64) (sz : Nat) (x : Int32) (hno : ¬ (¬ x < 0 ∧ x ≤ nI 1000)) (hl0 : l.stackTraces = false) : Met l y_L_issuer (.codeWith y_L_issuer b_L_issuer 4 (some .int) [(0, 9, 12, 13), (0, 9, 15, 15)] :: wAll) ({ frames := 8, cells := 1, slots := 6, locals := 134 } : Room) (mx_P [.ref (ad 0), .int x, .ref o] (dC, dI) vwCl [(cI, .int), (cJ, .long)] ((cb_w ad cI cJ n tc ki ra po se bc bs op pr pe pm) ++ [(o, .inl (cJ, 1, .inr (.inl ov)))]) sz) (va_Qi (fun (z : Int32) (_ : Unit) => z = nI 1) (mu_B (dC, dI) vwCl [(cI, .int), (cJ, .long)] (va_A ((cb_w ad cI cJ n tc ki ra po se bc bs op pr pe pm) ++ [(o, .inl (cJ, 1, .inr (.inl ov)))]) sz) ((cb_w ad cI cJ n tc ki ra po se bc bs op pr pe pm) ++ [(o, .inl (cJ, 1, .inr (.inl ov)))])) (va_A ((cb_w ad cI cJ n tc ki ra po se bc bs op pr pe pm) ++ [(o, .inl (cJ, 1, .inr (.inl ov)))]) sz)) 1 6 (va_A ((cb_w ad cI cJ n tc ki ra po se bc bs op pr pe pm) ++ [(o, .inl (cJ, 1, .inr (.inl ov)))]) sz) := by
  refine va_MetW (cc := b_L_issuer) (maxL := 4) (ret := some .int) (hh := [(0, 9, 12, 13), (0, 9, 15, 15)]) (by decide) rfl ?_
  intro p e s m args below meth c s₁ B hml hv
  obtain ⟨rfl, hsz, hP, hK, hD0, hB⟩ := hv
  have hx := B.exec
  have hb := B.bytes
  have hr := B.returns
  have hts0 := atoms_spec (ws := (.codeWith y_L_issuer b_L_issuer 4 (some .int) [(0, 9, 12, 13), (0, 9, 15, 15)] :: wAll)) B.pre
  have hts := hts_all hts0
  have hown : s.vm.findClass "ClearingBooksLaw" = some m.cls := findClass_of_methodNamed B.named
  have hlocks := B.notSynchronized
  subst hsz
  have hD := hD0.self (sz := s.heap.size)
  generalize hAe : va_A ((cb_w ad cI cJ n tc ki ra po se bc bs op pr pe pm) ++ [(o, .inl (cJ, 1, .inr (.inl ov)))]) s.heap.size = A at hD ⊢
  have hA : ∀ q : Nat, s.heap.size ≤ q → A q := fun q h => by rw [← hAe]; exact Or.inr h
  have hS : va_S A s.heap s.heap [] := va_S.rf
  have htab : c.exceptionTable.toList = [⟨0, 9, 12, 13⟩, ⟨0, 9, 15, 15⟩] := xw_table (Stand.of_body B) B.named (hts0 _ List.mem_cons_self)
  have hl := lv_entry ([.ref (ad 0), .int x, .ref o]) (n := 4) (Nat.le_of_ble_eq_true rfl)
  rw [lg_entry_eq]
  generalize (lg_sl ([.ref (ad 0), .int x, .ref o]) ++ List.replicate (4 - (lg_sl ([.ref (ad 0), .int x, .ref o])).length) Slot.unset).toArray = ls at hl ⊢
  have hl : lv_has ls 4 [(0, .ref (ad 0)), (1, .int x), (2, .ref o)] := hl
  refine lv_aload_n hx hb d_L_issuer_0 rfl (lv_at hl 2 rfl) ?_
  refine lv_iconst (v := nI 0) hx hb d_L_issuer_1 (by decide) ?_
  refine lv_aload_n hx hb d_L_issuer_2 rfl (lv_at hl 0 rfl) ?_
  refine lv_iload_n hx hb d_L_issuer_3 rfl (lv_at hl 1 rfl) ?_
  refine xt_catch (name := "java/lang/IllegalArgumentException") (xt_runV (As := [.int x]) (rest := [.int (nI 0), .ref o]) ⟨hx, hb, hml, hown, hts⟩ (c_issuer_ta l dC dI ad cI cJ n tc ki ra po se bc bs op pr pe pm x hno hl0) (cwV 1 hts (wAll_v kw_190 kw_191 kw_192 kw_1 kw_193) rfl rfl rfl (by decide +kernel) ⟨Nat.le_of_ble_eq_true rfl, Nat.le_of_ble_eq_true rfl⟩) (ro_preV bl_xc hK (P_l hP) (ci := 0) (q0 := 0) rfl rfl (fun U hU hW => xc_moved hB hW (fun q _ => by rw [hU]))) rfl rfl hl.1 rfl (lv_room (Nat.le_of_ble_eq_true rfl)) d_L_issuer_4 ⟨Nat.le_of_ble_eq_true rfl, Nat.le_of_ble_eq_true rfl⟩) hown [] ⟨0, 9, 12, 13⟩ [⟨0, 9, 15, 15⟩] htab (fun z hz => by cases hz) (by decide) (by decide) (hts _ kw_94) (hB.2.2.1 _ (List.mem_of_getElem? (l := xc_f) (i := 0) rfl)) (fun q9 H hz9 hk9 => ?_)
  have hS : va_S A s.heap H [] := ⟨hz9, fun q h1 _ => hk9 q h1, fun _ h => by cases h⟩
  have hP : va_P (dC, dI) vwCl ((cb_w ad cI cJ n tc ki ra po se bc bs op pr pe pm) ++ [(o, .inl (cJ, 1, .inr (.inl ov)))]) H := hP.kept (fun k x hx => hk9 x.1 (hP k x hx).lt)
  refine lv_astore_n (lv' := [(3, .ref q9), (0, .ref (ad 0)), (1, .int x), (2, .ref o)]) hx hb d_L_issuer_12 rfl hl (by decide) rfl (fun ls hl => ?_)
  refine lv_iconst (v := nI 1) hx hb d_L_issuer_13 (by decide) ?_
  refine W.widen (k := 1) (n := 6) (Nat.le_of_ble_eq_true rfl) (Nat.le_of_ble_eq_true rfl) ?_
  exact W.iret (v := nI 1) hx hb hr (fun t ht hW => ⟨⟨nI 1, (), rfl, rfl, by rw [ht]; exact hP, va_K.moved hW.alike hK, hD⟩, hS.F ht⟩) hS.2.2 d_L_issuer_14
set_option maxHeartbeats 4000000 in
set_option maxRecDepth 100000 in
theorem w_issuer_ts (l : Launch) (dC : Nat → ClassId) (dI : Nat → Nat → Nat) (ad : Nat → Nat) (cI cJ : ClassId) (n tc : Nat) (ki ra : Nat → Int32) (po se : Nat → Int64) (bc : Nat → Int32) (bs op : Nat → Int64) (pr pe : Nat → Int32) (pm : Nat → Int64) (o : Nat) (ov : Nat → Int64) (sz : Nat) (r : Nat) (hr0 : r ≤ 1000) (hn : n = 15) (hl0 : l.stackTraces = false) : Met l y_L_issuer (.codeWith y_L_issuer b_L_issuer 4 (some .int) [(0, 9, 12, 13), (0, 9, 15, 15)] :: wAll) ({ frames := 8, cells := 1, slots := 6, locals := 134 } : Room) (mx_P [.ref (ad 0), .int (nI r), .ref o] (dC, dI) vwCl [(cI, .int), (cJ, .long)] ((cb_w ad cI cJ n tc ki ra po se bc bs op pr pe pm) ++ [(o, .inl (cJ, 1, .inr (.inl ov)))]) sz) (va_Qi (fun (z : Int32) (_ : Unit) => z = nI 2) (mu_B (dC, dI) vwCl [(cI, .int), (cJ, .long)] (va_A ((cb_w ad cI cJ n tc ki ra po se bc bs op pr pe pm) ++ [(o, .inl (cJ, 1, .inr (.inl ov)))]) sz) ((cb_w ad cI cJ n tc ki ra po se bc bs op pr pe pm) ++ [(o, .inl (cJ, 1, .inr (.inl ov)))])) (va_A ((cb_w ad cI cJ n tc ki ra po se bc bs op pr pe pm) ++ [(o, .inl (cJ, 1, .inr (.inl ov)))]) sz)) 1 6 (va_A ((cb_w ad cI cJ n tc ki ra po se bc bs op pr pe pm) ++ [(o, .inl (cJ, 1, .inr (.inl ov)))]) sz) := by
  refine va_MetW (cc := b_L_issuer) (maxL := 4) (ret := some .int) (hh := [(0, 9, 12, 13), (0, 9, 15, 15)]) (by decide) rfl ?_
  intro p e s m args below meth c s₁ B hml hv
  obtain ⟨rfl, hsz, hP, hK, hD0, hB⟩ := hv
  have hx := B.exec
  have hb := B.bytes
  have hr := B.returns
  have hts0 := atoms_spec (ws := (.codeWith y_L_issuer b_L_issuer 4 (some .int) [(0, 9, 12, 13), (0, 9, 15, 15)] :: wAll)) B.pre
  have hts := hts_all hts0
  have hown : s.vm.findClass "ClearingBooksLaw" = some m.cls := findClass_of_methodNamed B.named
  have hlocks := B.notSynchronized
  subst hsz
  have hD := hD0.self (sz := s.heap.size)
  generalize hAe : va_A ((cb_w ad cI cJ n tc ki ra po se bc bs op pr pe pm) ++ [(o, .inl (cJ, 1, .inr (.inl ov)))]) s.heap.size = A at hD ⊢
  have hA : ∀ q : Nat, s.heap.size ≤ q → A q := fun q h => by rw [← hAe]; exact Or.inr h
  have hS : va_S A s.heap s.heap [] := va_S.rf
  have htab : c.exceptionTable.toList = [⟨0, 9, 12, 13⟩, ⟨0, 9, 15, 15⟩] := xw_table (Stand.of_body B) B.named (hts0 _ List.mem_cons_self)
  have hl := lv_entry ([.ref (ad 0), .int (nI r), .ref o]) (n := 4) (Nat.le_of_ble_eq_true rfl)
  rw [lg_entry_eq]
  generalize (lg_sl ([.ref (ad 0), .int (nI r), .ref o]) ++ List.replicate (4 - (lg_sl ([.ref (ad 0), .int (nI r), .ref o])).length) Slot.unset).toArray = ls at hl ⊢
  have hl : lv_has ls 4 [(0, .ref (ad 0)), (1, .int (nI r)), (2, .ref o)] := hl
  refine lv_aload_n hx hb d_L_issuer_0 rfl (lv_at hl 2 rfl) ?_
  refine lv_iconst (v := nI 0) hx hb d_L_issuer_1 (by decide) ?_
  refine lv_aload_n hx hb d_L_issuer_2 rfl (lv_at hl 0 rfl) ?_
  refine lv_iload_n hx hb d_L_issuer_3 rfl (lv_at hl 1 rfl) ?_
  refine xt_catch (name := "java/lang/IllegalStateException") (xt_runV (As := [.int (nI r)]) (rest := [.int (nI 0), .ref o]) ⟨hx, hb, hml, hown, hts⟩ (c_issuer_ts l dC dI ad cI cJ n tc ki ra po se bc bs op pr pe pm r hr0 hn hl0) (cwV 1 hts (wAll_v kw_190 kw_191 kw_192 kw_1 kw_193) rfl rfl rfl (by decide +kernel) ⟨Nat.le_of_ble_eq_true rfl, Nat.le_of_ble_eq_true rfl⟩) (ro_preV bl_xc hK (P_l hP) (ci := 0) (q0 := 0) rfl rfl (fun U hU hW => xc_moved hB hW (fun q _ => by rw [hU]))) rfl rfl hl.1 rfl (lv_room (Nat.le_of_ble_eq_true rfl)) d_L_issuer_4 ⟨Nat.le_of_ble_eq_true rfl, Nat.le_of_ble_eq_true rfl⟩) hown [⟨0, 9, 12, 13⟩] ⟨0, 9, 15, 15⟩ [] htab (fun z hz => by rw [List.mem_singleton.mp hz]; exact Or.inr ⟨by decide, "java/lang/IllegalArgumentException", hts _ kw_94, hB.2.2.2⟩) (by decide) (by decide) (hts _ kw_95) (hB.2.2.1 _ (List.mem_of_getElem? (l := xc_f) (i := 1) rfl)) (fun q9 H hz9 hk9 => ?_)
  have hS : va_S A s.heap H [] := ⟨hz9, fun q h1 _ => hk9 q h1, fun _ h => by cases h⟩
  have hP : va_P (dC, dI) vwCl ((cb_w ad cI cJ n tc ki ra po se bc bs op pr pe pm) ++ [(o, .inl (cJ, 1, .inr (.inl ov)))]) H := hP.kept (fun k x hx => hk9 x.1 (hP k x hx).lt)
  refine lv_astore_n (lv' := [(3, .ref q9), (0, .ref (ad 0)), (1, .int (nI r)), (2, .ref o)]) hx hb d_L_issuer_15 rfl hl (by decide) rfl (fun ls hl => ?_)
  refine lv_iconst (v := nI 2) hx hb d_L_issuer_16 (by decide) ?_
  refine W.widen (k := 1) (n := 6) (Nat.le_of_ble_eq_true rfl) (Nat.le_of_ble_eq_true rfl) ?_
  exact W.iret (v := nI 2) hx hb hr (fun t ht hW => ⟨⟨nI 2, (), rfl, rfl, by rw [ht]; exact hP, va_K.moved hW.alike hK, hD⟩, hS.F ht⟩) hS.2.2 d_L_issuer_17
set_option maxHeartbeats 4000000 in
set_option maxRecDepth 100000 in
theorem w_clear_y (l : Launch) (dC : Nat → ClassId) (dI : Nat → Nat → Nat) (ad : Nat → Nat) (cI cJ : ClassId) (n tc : Nat) (ki ra : Nat → Int32) (po se : Nat → Int64) (bc : Nat → Int32) (bs op : Nat → Int64) (pr pe : Nat → Int32) (pm : Nat → Int64) (o : Nat) (ov : Nat → Int64) (sz : Nat) (i j : Nat) (x : Int64) (hji : i < n) (hjj : j < n) (hn : n ≤ 15) (hki : ki i = nI 1) (hkj : ki j = nI 2) (h1 : ¬ x < 1) (h2 : ¬ 1000000000000 < x) : Met l y_L_clear (.codeWith y_L_clear b_L_clear 7 (some .int) [(0, 11, 14, 13)] :: wAll) ({ frames := 8, cells := 1, slots := 6, locals := 141 } : Room) (mx_P [.ref (ad 0), .int (nI i), .int (nI j), .long x, .ref o] (dC, dI) vwCl [(cI, .int), (cJ, .long)] ((cb_w ad cI cJ n tc ki ra po se bc bs op pr pe pm) ++ [(o, .inl (cJ, 1, .inr (.inl ov)))]) sz) (va_Qi (fun (z : Int32) (_ : Unit) => z = nI 0) (mu_B (dC, dI) vwCl [(cI, .int), (cJ, .long)] (va_A ((cb_w ad cI cJ n tc ki ra po se bc bs op pr pe pm) ++ [(o, .inl (cJ, 1, .inr (.inl ov)))]) sz) ((cb_w ad cI cJ n tc ki ra (po_cl po i j x (cgv x (ra j + ra i)) (dnv x (ra j))) se (upd bc i (bc i + nI 1)) (vp_updL bs i (bs i + x)) op pr pe pm) ++ [(o, .inl (cJ, 1, .inr (.inl (vp_updL ov 0 (cgv x (ra j + ra i))))))])) (va_A ((cb_w ad cI cJ n tc ki ra po se bc bs op pr pe pm) ++ [(o, .inl (cJ, 1, .inr (.inl ov)))]) sz)) 1 6 (va_A ((cb_w ad cI cJ n tc ki ra po se bc bs op pr pe pm) ++ [(o, .inl (cJ, 1, .inr (.inl ov)))]) sz) := by
  refine va_MetW (cc := b_L_clear) (maxL := 7) (ret := some .int) (hh := [(0, 11, 14, 13)]) (by decide) rfl ?_
  intro p e s m args below meth c s₁ B hml hv
  obtain ⟨rfl, hsz, hP, hK, hD0, hB⟩ := hv
  have hx := B.exec
  have hb := B.bytes
  have hr := B.returns
  have hts0 := atoms_spec (ws := (.codeWith y_L_clear b_L_clear 7 (some .int) [(0, 11, 14, 13)] :: wAll)) B.pre
  have hts := hts_all hts0
  have hown : s.vm.findClass "ClearingBooksLaw" = some m.cls := findClass_of_methodNamed B.named
  have hlocks := B.notSynchronized
  subst hsz
  have hD := hD0.self (sz := s.heap.size)
  generalize hAe : va_A ((cb_w ad cI cJ n tc ki ra po se bc bs op pr pe pm) ++ [(o, .inl (cJ, 1, .inr (.inl ov)))]) s.heap.size = A at hD ⊢
  have hA : ∀ q : Nat, s.heap.size ≤ q → A q := fun q h => by rw [← hAe]; exact Or.inr h
  have hS : va_S A s.heap s.heap [] := va_S.rf
  have hl := lv_entry ([.ref (ad 0), .int (nI i), .int (nI j), .long x, .ref o]) (n := 7) (Nat.le_of_ble_eq_true rfl)
  rw [lg_entry_eq]
  generalize (lg_sl ([.ref (ad 0), .int (nI i), .int (nI j), .long x, .ref o]) ++ List.replicate (7 - (lg_sl ([.ref (ad 0), .int (nI i), .int (nI j), .long x, .ref o])).length) Slot.unset).toArray = ls at hl ⊢
  have hl : lv_has ls 7 [(0, .ref (ad 0)), (1, .int (nI i)), (2, .int (nI j)), (3, .long x), (5, .ref o)] := hl
  refine lv_aload hx hb d_L_clear_0 (lv_at hl 4 rfl) ?_
  refine lv_iconst (v := nI 0) hx hb d_L_clear_2 (by decide) ?_
  refine lv_aload_n hx hb d_L_clear_3 rfl (lv_at hl 0 rfl) ?_
  refine lv_iload_n hx hb d_L_clear_4 rfl (lv_at hl 1 rfl) ?_
  refine lv_iload_n hx hb d_L_clear_5 rfl (lv_at hl 2 rfl) ?_
  refine lv_lload_n hx hb d_L_clear_6 rfl (lv_at hl 3 rfl) ?_
  refine ml_calll (va_runV (As := [.int (nI i), .int (nI j), .long x]) (rest := [.int (nI 0), .ref o]) ⟨hx, hb, hml, hown, hts⟩ (c_clear_y l dC dI ad cI cJ n tc ki ra po se bc bs op pr pe pm _ i j x hji hjj hn hki hkj h1 h2) (cwV 3 hts (wAll_v kw_197 kw_198 kw_199 kw_1 kw_200) rfl rfl rfl (by decide +kernel) ⟨Nat.le_of_ble_eq_true rfl, Nat.le_of_ble_eq_true rfl⟩) (mu_preV hK (P_l hP) (D_l hD) (ci := 0) (q0 := 0) rfl rfl) rfl rfl hl.1 rfl (lv_room (Nat.le_of_ble_eq_true rfl)) d_L_clear_7 ⟨Nat.le_of_ble_eq_true rfl, Nat.le_of_ble_eq_true rfl⟩) hP hD hS hA (fun z9 H locs hq hP hD hS => ?_)
  obtain rfl := hq
  have hP : va_P (dC, dI) vwCl ((cb_w ad cI cJ n tc ki ra (po_cl po i j x (cgv x (ra j + ra i)) (dnv x (ra j))) se (upd bc i (bc i + nI 1)) (vp_updL bs i (bs i + x)) op pr pe pm) ++ [(o, .inl (cJ, 1, .inr (.inl ov)))]) H := hP
  have hD : va_D A ((cb_w ad cI cJ n tc ki ra (po_cl po i j x (cgv x (ra j + ra i)) (dnv x (ra j))) se (upd bc i (bc i + nI 1)) (vp_updL bs i (bs i + x)) op pr pe pm) ++ [(o, .inl (cJ, 1, .inr (.inl ov)))]) := hD
  refine xa_lastore (f := ov) (x := cgv x (ra j + ra i)) hx hb hK hP hD hS 11 1 rfl rfl (j := 0) (by omega) (by decide) d_L_clear_10 (fun H locs hP hD hS => ?_)
  have hP : va_P (dC, dI) vwCl ((cb_w ad cI cJ n tc ki ra (po_cl po i j x (cgv x (ra j + ra i)) (dnv x (ra j))) se (upd bc i (bc i + nI 1)) (vp_updL bs i (bs i + x)) op pr pe pm) ++ [(o, .inl (cJ, 1, .inr (.inl (vp_updL ov 0 (cgv x (ra j + ra i))))))]) H := hP
  have hD : va_D A ((cb_w ad cI cJ n tc ki ra (po_cl po i j x (cgv x (ra j + ra i)) (dnv x (ra j))) se (upd bc i (bc i + nI 1)) (vp_updL bs i (bs i + x)) op pr pe pm) ++ [(o, .inl (cJ, 1, .inr (.inl (vp_updL ov 0 (cgv x (ra j + ra i))))))]) := hD
  refine lv_goto (tgt := 18) hx hb d_L_clear_11 (by decide) ?_
  refine lv_iconst (v := nI 0) hx hb d_L_clear_18 (by decide) ?_
  refine W.widen (k := 1) (n := 6) (Nat.le_of_ble_eq_true rfl) (Nat.le_of_ble_eq_true rfl) ?_
  exact W.iret (v := nI 0) hx hb hr (fun t ht hW => ⟨⟨nI 0, (), rfl, rfl, by rw [ht]; exact hP, va_K.moved hW.alike hK, hD⟩, hS.F ht⟩) hS.2.2 d_L_clear_19
set_option maxHeartbeats 4000000 in
set_option maxRecDepth 100000 in
theorem w_clear_ta (l : Launch) (dC : Nat → ClassId) (dI : Nat → Nat → Nat) (ad : Nat → Nat) (cI cJ : ClassId) (n tc : Nat) (ki ra : Nat → Int32) (po se : Nat → Int64) (bc : Nat → Int32) (bs op : Nat → Int64) (pr pe : Nat → Int32) (pm : Nat → Int64) (o : Nat) (ov : Nat → Int64) (sz : Nat) (a b : Int32) (x : Int64) (hn : n ≤ 15) (hno : ¬ is_k n ki a (nI 1)) (hl0 : l.stackTraces = false) : Met l y_L_clear (.codeWith y_L_clear b_L_clear 7 (some .int) [(0, 11, 14, 13)] :: wAll) ({ frames := 8, cells := 1, slots := 6, locals := 141 } : Room) (mx_P [.ref (ad 0), .int a, .int b, .long x, .ref o] (dC, dI) vwCl [(cI, .int), (cJ, .long)] ((cb_w ad cI cJ n tc ki ra po se bc bs op pr pe pm) ++ [(o, .inl (cJ, 1, .inr (.inl ov)))]) sz) (va_Qi (fun (z : Int32) (_ : Unit) => z = nI 1) (mu_B (dC, dI) vwCl [(cI, .int), (cJ, .long)] (va_A ((cb_w ad cI cJ n tc ki ra po se bc bs op pr pe pm) ++ [(o, .inl (cJ, 1, .inr (.inl ov)))]) sz) ((cb_w ad cI cJ n tc ki ra po se bc bs op pr pe pm) ++ [(o, .inl (cJ, 1, .inr (.inl ov)))])) (va_A ((cb_w ad cI cJ n tc ki ra po se bc bs op pr pe pm) ++ [(o, .inl (cJ, 1, .inr (.inl ov)))]) sz)) 1 6 (va_A ((cb_w ad cI cJ n tc ki ra po se bc bs op pr pe pm) ++ [(o, .inl (cJ, 1, .inr (.inl ov)))]) sz) := by
  refine va_MetW (cc := b_L_clear) (maxL := 7) (ret := some .int) (hh := [(0, 11, 14, 13)]) (by decide) rfl ?_
  intro p e s m args below meth c s₁ B hml hv
  obtain ⟨rfl, hsz, hP, hK, hD0, hB⟩ := hv
  have hx := B.exec
  have hb := B.bytes
  have hr := B.returns
  have hts0 := atoms_spec (ws := (.codeWith y_L_clear b_L_clear 7 (some .int) [(0, 11, 14, 13)] :: wAll)) B.pre
  have hts := hts_all hts0
  have hown : s.vm.findClass "ClearingBooksLaw" = some m.cls := findClass_of_methodNamed B.named
  have hlocks := B.notSynchronized
  subst hsz
  have hD := hD0.self (sz := s.heap.size)
  generalize hAe : va_A ((cb_w ad cI cJ n tc ki ra po se bc bs op pr pe pm) ++ [(o, .inl (cJ, 1, .inr (.inl ov)))]) s.heap.size = A at hD ⊢
  have hA : ∀ q : Nat, s.heap.size ≤ q → A q := fun q h => by rw [← hAe]; exact Or.inr h
  have hS : va_S A s.heap s.heap [] := va_S.rf
  have htab : c.exceptionTable.toList = [⟨0, 11, 14, 13⟩] := xw_table (Stand.of_body B) B.named (hts0 _ List.mem_cons_self)
  have hl := lv_entry ([.ref (ad 0), .int a, .int b, .long x, .ref o]) (n := 7) (Nat.le_of_ble_eq_true rfl)
  rw [lg_entry_eq]
  generalize (lg_sl ([.ref (ad 0), .int a, .int b, .long x, .ref o]) ++ List.replicate (7 - (lg_sl ([.ref (ad 0), .int a, .int b, .long x, .ref o])).length) Slot.unset).toArray = ls at hl ⊢
  have hl : lv_has ls 7 [(0, .ref (ad 0)), (1, .int a), (2, .int b), (3, .long x), (5, .ref o)] := hl
  refine lv_aload hx hb d_L_clear_0 (lv_at hl 4 rfl) ?_
  refine lv_iconst (v := nI 0) hx hb d_L_clear_2 (by decide) ?_
  refine lv_aload_n hx hb d_L_clear_3 rfl (lv_at hl 0 rfl) ?_
  refine lv_iload_n hx hb d_L_clear_4 rfl (lv_at hl 1 rfl) ?_
  refine lv_iload_n hx hb d_L_clear_5 rfl (lv_at hl 2 rfl) ?_
  refine lv_lload_n hx hb d_L_clear_6 rfl (lv_at hl 3 rfl) ?_
  refine xt_catch (name := "java/lang/IllegalArgumentException") (xt_runV (As := [.int a, .int b, .long x]) (rest := [.int (nI 0), .ref o]) ⟨hx, hb, hml, hown, hts⟩ (c_clear_ta l dC dI ad cI cJ n tc ki ra po se bc bs op pr pe pm a b x hn hno hl0) (cwV 3 hts (wAll_v kw_197 kw_198 kw_199 kw_1 kw_200) rfl rfl rfl (by decide +kernel) ⟨Nat.le_of_ble_eq_true rfl, Nat.le_of_ble_eq_true rfl⟩) (ro_preV bl_xc hK (P_l hP) (ci := 0) (q0 := 0) rfl rfl (fun U hU hW => xc_moved hB hW (fun q _ => by rw [hU]))) rfl rfl hl.1 rfl (lv_room (Nat.le_of_ble_eq_true rfl)) d_L_clear_7 ⟨Nat.le_of_ble_eq_true rfl, Nat.le_of_ble_eq_true rfl⟩) hown [] ⟨0, 11, 14, 13⟩ [] htab (fun z hz => by cases hz) (by decide) (by decide) (hts _ kw_94) (hB.2.2.1 _ (List.mem_of_getElem? (l := xc_f) (i := 0) rfl)) (fun q9 H hz9 hk9 => ?_)
  have hS : va_S A s.heap H [] := ⟨hz9, fun q h1 _ => hk9 q h1, fun _ h => by cases h⟩
  have hP : va_P (dC, dI) vwCl ((cb_w ad cI cJ n tc ki ra po se bc bs op pr pe pm) ++ [(o, .inl (cJ, 1, .inr (.inl ov)))]) H := hP.kept (fun k x hx => hk9 x.1 (hP k x hx).lt)
  refine lv_astore (lv' := [(6, .ref q9), (0, .ref (ad 0)), (1, .int a), (2, .int b), (3, .long x), (5, .ref o)]) hx hb d_L_clear_14 hl (by decide) rfl (fun ls hl => ?_)
  refine lv_iconst (v := nI 1) hx hb d_L_clear_16 (by decide) ?_
  refine W.widen (k := 1) (n := 6) (Nat.le_of_ble_eq_true rfl) (Nat.le_of_ble_eq_true rfl) ?_
  exact W.iret (v := nI 1) hx hb hr (fun t ht hW => ⟨⟨nI 1, (), rfl, rfl, by rw [ht]; exact hP, va_K.moved hW.alike hK, hD⟩, hS.F ht⟩) hS.2.2 d_L_clear_17
set_option maxHeartbeats 4000000 in
set_option maxRecDepth 100000 in
theorem w_clear_tb (l : Launch) (dC : Nat → ClassId) (dI : Nat → Nat → Nat) (ad : Nat → Nat) (cI cJ : ClassId) (n tc : Nat) (ki ra : Nat → Int32) (po se : Nat → Int64) (bc : Nat → Int32) (bs op : Nat → Int64) (pr pe : Nat → Int32) (pm : Nat → Int64) (o : Nat) (ov : Nat → Int64) (sz : Nat) (i : Nat) (b : Int32) (x : Int64) (hji : i < n) (hn : n ≤ 15) (hki : ki i = nI 1) (hno : ¬ is_k n ki b (nI 2)) (hl0 : l.stackTraces = false) : Met l y_L_clear (.codeWith y_L_clear b_L_clear 7 (some .int) [(0, 11, 14, 13)] :: wAll) ({ frames := 8, cells := 1, slots := 6, locals := 141 } : Room) (mx_P [.ref (ad 0), .int (nI i), .int b, .long x, .ref o] (dC, dI) vwCl [(cI, .int), (cJ, .long)] ((cb_w ad cI cJ n tc ki ra po se bc bs op pr pe pm) ++ [(o, .inl (cJ, 1, .inr (.inl ov)))]) sz) (va_Qi (fun (z : Int32) (_ : Unit) => z = nI 1) (mu_B (dC, dI) vwCl [(cI, .int), (cJ, .long)] (va_A ((cb_w ad cI cJ n tc ki ra po se bc bs op pr pe pm) ++ [(o, .inl (cJ, 1, .inr (.inl ov)))]) sz) ((cb_w ad cI cJ n tc ki ra po se bc bs op pr pe pm) ++ [(o, .inl (cJ, 1, .inr (.inl ov)))])) (va_A ((cb_w ad cI cJ n tc ki ra po se bc bs op pr pe pm) ++ [(o, .inl (cJ, 1, .inr (.inl ov)))]) sz)) 1 6 (va_A ((cb_w ad cI cJ n tc ki ra po se bc bs op pr pe pm) ++ [(o, .inl (cJ, 1, .inr (.inl ov)))]) sz) := by
  refine va_MetW (cc := b_L_clear) (maxL := 7) (ret := some .int) (hh := [(0, 11, 14, 13)]) (by decide) rfl ?_
  intro p e s m args below meth c s₁ B hml hv
  obtain ⟨rfl, hsz, hP, hK, hD0, hB⟩ := hv
  have hx := B.exec
  have hb := B.bytes
  have hr := B.returns
  have hts0 := atoms_spec (ws := (.codeWith y_L_clear b_L_clear 7 (some .int) [(0, 11, 14, 13)] :: wAll)) B.pre
  have hts := hts_all hts0
  have hown : s.vm.findClass "ClearingBooksLaw" = some m.cls := findClass_of_methodNamed B.named
  have hlocks := B.notSynchronized
  subst hsz
  have hD := hD0.self (sz := s.heap.size)
  generalize hAe : va_A ((cb_w ad cI cJ n tc ki ra po se bc bs op pr pe pm) ++ [(o, .inl (cJ, 1, .inr (.inl ov)))]) s.heap.size = A at hD ⊢
  have hA : ∀ q : Nat, s.heap.size ≤ q → A q := fun q h => by rw [← hAe]; exact Or.inr h
  have hS : va_S A s.heap s.heap [] := va_S.rf
  have htab : c.exceptionTable.toList = [⟨0, 11, 14, 13⟩] := xw_table (Stand.of_body B) B.named (hts0 _ List.mem_cons_self)
  have hl := lv_entry ([.ref (ad 0), .int (nI i), .int b, .long x, .ref o]) (n := 7) (Nat.le_of_ble_eq_true rfl)
  rw [lg_entry_eq]
  generalize (lg_sl ([.ref (ad 0), .int (nI i), .int b, .long x, .ref o]) ++ List.replicate (7 - (lg_sl ([.ref (ad 0), .int (nI i), .int b, .long x, .ref o])).length) Slot.unset).toArray = ls at hl ⊢
  have hl : lv_has ls 7 [(0, .ref (ad 0)), (1, .int (nI i)), (2, .int b), (3, .long x), (5, .ref o)] := hl
  refine lv_aload hx hb d_L_clear_0 (lv_at hl 4 rfl) ?_
  refine lv_iconst (v := nI 0) hx hb d_L_clear_2 (by decide) ?_
  refine lv_aload_n hx hb d_L_clear_3 rfl (lv_at hl 0 rfl) ?_
  refine lv_iload_n hx hb d_L_clear_4 rfl (lv_at hl 1 rfl) ?_
  refine lv_iload_n hx hb d_L_clear_5 rfl (lv_at hl 2 rfl) ?_
  refine lv_lload_n hx hb d_L_clear_6 rfl (lv_at hl 3 rfl) ?_
  refine xt_catch (name := "java/lang/IllegalArgumentException") (xt_runV (As := [.int (nI i), .int b, .long x]) (rest := [.int (nI 0), .ref o]) ⟨hx, hb, hml, hown, hts⟩ (c_clear_tb l dC dI ad cI cJ n tc ki ra po se bc bs op pr pe pm i b x hji hn hki hno hl0) (cwV 3 hts (wAll_v kw_197 kw_198 kw_199 kw_1 kw_200) rfl rfl rfl (by decide +kernel) ⟨Nat.le_of_ble_eq_true rfl, Nat.le_of_ble_eq_true rfl⟩) (ro_preV bl_xc hK (P_l hP) (ci := 0) (q0 := 0) rfl rfl (fun U hU hW => xc_moved hB hW (fun q _ => by rw [hU]))) rfl rfl hl.1 rfl (lv_room (Nat.le_of_ble_eq_true rfl)) d_L_clear_7 ⟨Nat.le_of_ble_eq_true rfl, Nat.le_of_ble_eq_true rfl⟩) hown [] ⟨0, 11, 14, 13⟩ [] htab (fun z hz => by cases hz) (by decide) (by decide) (hts _ kw_94) (hB.2.2.1 _ (List.mem_of_getElem? (l := xc_f) (i := 0) rfl)) (fun q9 H hz9 hk9 => ?_)
  have hS : va_S A s.heap H [] := ⟨hz9, fun q h1 _ => hk9 q h1, fun _ h => by cases h⟩
  have hP : va_P (dC, dI) vwCl ((cb_w ad cI cJ n tc ki ra po se bc bs op pr pe pm) ++ [(o, .inl (cJ, 1, .inr (.inl ov)))]) H := hP.kept (fun k x hx => hk9 x.1 (hP k x hx).lt)
  refine lv_astore (lv' := [(6, .ref q9), (0, .ref (ad 0)), (1, .int (nI i)), (2, .int b), (3, .long x), (5, .ref o)]) hx hb d_L_clear_14 hl (by decide) rfl (fun ls hl => ?_)
  refine lv_iconst (v := nI 1) hx hb d_L_clear_16 (by decide) ?_
  refine W.widen (k := 1) (n := 6) (Nat.le_of_ble_eq_true rfl) (Nat.le_of_ble_eq_true rfl) ?_
  exact W.iret (v := nI 1) hx hb hr (fun t ht hW => ⟨⟨nI 1, (), rfl, rfl, by rw [ht]; exact hP, va_K.moved hW.alike hK, hD⟩, hS.F ht⟩) hS.2.2 d_L_clear_17
set_option maxHeartbeats 4000000 in
set_option maxRecDepth 100000 in
theorem w_clear_tx (l : Launch) (dC : Nat → ClassId) (dI : Nat → Nat → Nat) (ad : Nat → Nat) (cI cJ : ClassId) (n tc : Nat) (ki ra : Nat → Int32) (po se : Nat → Int64) (bc : Nat → Int32) (bs op : Nat → Int64) (pr pe : Nat → Int32) (pm : Nat → Int64) (o : Nat) (ov : Nat → Int64) (sz : Nat) (i j : Nat) (x : Int64) (hji : i < n) (hjj : j < n) (hn : n ≤ 15) (hki : ki i = nI 1) (hkj : ki j = nI 2) (hno : ¬ (¬ x < 1 ∧ ¬ 1000000000000 < x)) (hl0 : l.stackTraces = false) : Met l y_L_clear (.codeWith y_L_clear b_L_clear 7 (some .int) [(0, 11, 14, 13)] :: wAll) ({ frames := 8, cells := 1, slots := 6, locals := 141 } : Room) (mx_P [.ref (ad 0), .int (nI i), .int (nI j), .long x, .ref o] (dC, dI) vwCl [(cI, .int), (cJ, .long)] ((cb_w ad cI cJ n tc ki ra po se bc bs op pr pe pm) ++ [(o, .inl (cJ, 1, .inr (.inl ov)))]) sz) (va_Qi (fun (z : Int32) (_ : Unit) => z = nI 1) (mu_B (dC, dI) vwCl [(cI, .int), (cJ, .long)] (va_A ((cb_w ad cI cJ n tc ki ra po se bc bs op pr pe pm) ++ [(o, .inl (cJ, 1, .inr (.inl ov)))]) sz) ((cb_w ad cI cJ n tc ki ra po se bc bs op pr pe pm) ++ [(o, .inl (cJ, 1, .inr (.inl ov)))])) (va_A ((cb_w ad cI cJ n tc ki ra po se bc bs op pr pe pm) ++ [(o, .inl (cJ, 1, .inr (.inl ov)))]) sz)) 1 6 (va_A ((cb_w ad cI cJ n tc ki ra po se bc bs op pr pe pm) ++ [(o, .inl (cJ, 1, .inr (.inl ov)))]) sz) := by
  refine va_MetW (cc := b_L_clear) (maxL := 7) (ret := some .int) (hh := [(0, 11, 14, 13)]) (by decide) rfl ?_
  intro p e s m args below meth c s₁ B hml hv
  obtain ⟨rfl, hsz, hP, hK, hD0, hB⟩ := hv
  have hx := B.exec
  have hb := B.bytes
  have hr := B.returns
  have hts0 := atoms_spec (ws := (.codeWith y_L_clear b_L_clear 7 (some .int) [(0, 11, 14, 13)] :: wAll)) B.pre
  have hts := hts_all hts0
  have hown : s.vm.findClass "ClearingBooksLaw" = some m.cls := findClass_of_methodNamed B.named
  have hlocks := B.notSynchronized
  subst hsz
  have hD := hD0.self (sz := s.heap.size)
  generalize hAe : va_A ((cb_w ad cI cJ n tc ki ra po se bc bs op pr pe pm) ++ [(o, .inl (cJ, 1, .inr (.inl ov)))]) s.heap.size = A at hD ⊢
  have hA : ∀ q : Nat, s.heap.size ≤ q → A q := fun q h => by rw [← hAe]; exact Or.inr h
  have hS : va_S A s.heap s.heap [] := va_S.rf
  have htab : c.exceptionTable.toList = [⟨0, 11, 14, 13⟩] := xw_table (Stand.of_body B) B.named (hts0 _ List.mem_cons_self)
  have hl := lv_entry ([.ref (ad 0), .int (nI i), .int (nI j), .long x, .ref o]) (n := 7) (Nat.le_of_ble_eq_true rfl)
  rw [lg_entry_eq]
  generalize (lg_sl ([.ref (ad 0), .int (nI i), .int (nI j), .long x, .ref o]) ++ List.replicate (7 - (lg_sl ([.ref (ad 0), .int (nI i), .int (nI j), .long x, .ref o])).length) Slot.unset).toArray = ls at hl ⊢
  have hl : lv_has ls 7 [(0, .ref (ad 0)), (1, .int (nI i)), (2, .int (nI j)), (3, .long x), (5, .ref o)] := hl
  refine lv_aload hx hb d_L_clear_0 (lv_at hl 4 rfl) ?_
  refine lv_iconst (v := nI 0) hx hb d_L_clear_2 (by decide) ?_
  refine lv_aload_n hx hb d_L_clear_3 rfl (lv_at hl 0 rfl) ?_
  refine lv_iload_n hx hb d_L_clear_4 rfl (lv_at hl 1 rfl) ?_
  refine lv_iload_n hx hb d_L_clear_5 rfl (lv_at hl 2 rfl) ?_
  refine lv_lload_n hx hb d_L_clear_6 rfl (lv_at hl 3 rfl) ?_
  refine xt_catch (name := "java/lang/IllegalArgumentException") (xt_runV (As := [.int (nI i), .int (nI j), .long x]) (rest := [.int (nI 0), .ref o]) ⟨hx, hb, hml, hown, hts⟩ (c_clear_tx l dC dI ad cI cJ n tc ki ra po se bc bs op pr pe pm i j x hji hjj hn hki hkj hno hl0) (cwV 3 hts (wAll_v kw_197 kw_198 kw_199 kw_1 kw_200) rfl rfl rfl (by decide +kernel) ⟨Nat.le_of_ble_eq_true rfl, Nat.le_of_ble_eq_true rfl⟩) (ro_preV bl_xc hK (P_l hP) (ci := 0) (q0 := 0) rfl rfl (fun U hU hW => xc_moved hB hW (fun q _ => by rw [hU]))) rfl rfl hl.1 rfl (lv_room (Nat.le_of_ble_eq_true rfl)) d_L_clear_7 ⟨Nat.le_of_ble_eq_true rfl, Nat.le_of_ble_eq_true rfl⟩) hown [] ⟨0, 11, 14, 13⟩ [] htab (fun z hz => by cases hz) (by decide) (by decide) (hts _ kw_94) (hB.2.2.1 _ (List.mem_of_getElem? (l := xc_f) (i := 0) rfl)) (fun q9 H hz9 hk9 => ?_)
  have hS : va_S A s.heap H [] := ⟨hz9, fun q h1 _ => hk9 q h1, fun _ h => by cases h⟩
  have hP : va_P (dC, dI) vwCl ((cb_w ad cI cJ n tc ki ra po se bc bs op pr pe pm) ++ [(o, .inl (cJ, 1, .inr (.inl ov)))]) H := hP.kept (fun k x hx => hk9 x.1 (hP k x hx).lt)
  refine lv_astore (lv' := [(6, .ref q9), (0, .ref (ad 0)), (1, .int (nI i)), (2, .int (nI j)), (3, .long x), (5, .ref o)]) hx hb d_L_clear_14 hl (by decide) rfl (fun ls hl => ?_)
  refine lv_iconst (v := nI 1) hx hb d_L_clear_16 (by decide) ?_
  refine W.widen (k := 1) (n := 6) (Nat.le_of_ble_eq_true rfl) (Nat.le_of_ble_eq_true rfl) ?_
  exact W.iret (v := nI 1) hx hb hr (fun t ht hW => ⟨⟨nI 1, (), rfl, rfl, by rw [ht]; exact hP, va_K.moved hW.alike hK, hD⟩, hS.F ht⟩) hS.2.2 d_L_clear_17
set_option maxHeartbeats 4000000 in
set_option maxRecDepth 100000 in
theorem w_back_y (l : Launch) (dC : Nat → ClassId) (dI : Nat → Nat → Nat) (ad : Nat → Nat) (cI cJ : ClassId) (n tc : Nat) (ki ra : Nat → Int32) (po se : Nat → Int64) (bc : Nat → Int32) (bs op : Nat → Int64) (pr pe : Nat → Int32) (pm : Nat → Int64) (o : Nat) (ov : Nat → Int64) (sz : Nat) (i j : Nat) (x : Int64) (hji : i < n) (hjj : j < n) (hn : n ≤ 15) (hki : ki i = nI 1) (hkj : ki j = nI 2) (h1 : ¬ x < (-1000000000000)) (h2 : ¬ 1000000000000 < x) : Met l y_L_back (.codeWith y_L_back b_L_back 7 (some .int) [(0, 11, 14, 13)] :: wAll) ({ frames := 8, cells := 1, slots := 6, locals := 137 } : Room) (mx_P [.ref (ad 0), .int (nI i), .int (nI j), .long x, .ref o] (dC, dI) vwCl [(cI, .int), (cJ, .long)] ((cb_w ad cI cJ n tc ki ra po se bc bs op pr pe pm) ++ [(o, .inl (cJ, 1, .inr (.inl ov)))]) sz) (va_Qi (fun (z : Int32) (_ : Unit) => z = nI 0) (mu_B (dC, dI) vwCl [(cI, .int), (cJ, .long)] (va_A ((cb_w ad cI cJ n tc ki ra po se bc bs op pr pe pm) ++ [(o, .inl (cJ, 1, .inr (.inl ov)))]) sz) ((cb_w ad cI cJ n tc ki ra (po_bk po i j x) se bc bs op pr pe pm) ++ [(o, .inl (cJ, 1, .inr (.inl (vp_updL ov 0 (po_bk po i j x i)))))])) (va_A ((cb_w ad cI cJ n tc ki ra po se bc bs op pr pe pm) ++ [(o, .inl (cJ, 1, .inr (.inl ov)))]) sz)) 1 6 (va_A ((cb_w ad cI cJ n tc ki ra po se bc bs op pr pe pm) ++ [(o, .inl (cJ, 1, .inr (.inl ov)))]) sz) := by
  refine va_MetW (cc := b_L_back) (maxL := 7) (ret := some .int) (hh := [(0, 11, 14, 13)]) (by decide) rfl ?_
  intro p e s m args below meth c s₁ B hml hv
  obtain ⟨rfl, hsz, hP, hK, hD0, hB⟩ := hv
  have hx := B.exec
  have hb := B.bytes
  have hr := B.returns
  have hts0 := atoms_spec (ws := (.codeWith y_L_back b_L_back 7 (some .int) [(0, 11, 14, 13)] :: wAll)) B.pre
  have hts := hts_all hts0
  have hown : s.vm.findClass "ClearingBooksLaw" = some m.cls := findClass_of_methodNamed B.named
  have hlocks := B.notSynchronized
  subst hsz
  have hD := hD0.self (sz := s.heap.size)
  generalize hAe : va_A ((cb_w ad cI cJ n tc ki ra po se bc bs op pr pe pm) ++ [(o, .inl (cJ, 1, .inr (.inl ov)))]) s.heap.size = A at hD ⊢
  have hA : ∀ q : Nat, s.heap.size ≤ q → A q := fun q h => by rw [← hAe]; exact Or.inr h
  have hS : va_S A s.heap s.heap [] := va_S.rf
  have hl := lv_entry ([.ref (ad 0), .int (nI i), .int (nI j), .long x, .ref o]) (n := 7) (Nat.le_of_ble_eq_true rfl)
  rw [lg_entry_eq]
  generalize (lg_sl ([.ref (ad 0), .int (nI i), .int (nI j), .long x, .ref o]) ++ List.replicate (7 - (lg_sl ([.ref (ad 0), .int (nI i), .int (nI j), .long x, .ref o])).length) Slot.unset).toArray = ls at hl ⊢
  have hl : lv_has ls 7 [(0, .ref (ad 0)), (1, .int (nI i)), (2, .int (nI j)), (3, .long x), (5, .ref o)] := hl
  refine lv_aload hx hb d_L_back_0 (lv_at hl 4 rfl) ?_
  refine lv_iconst (v := nI 0) hx hb d_L_back_2 (by decide) ?_
  refine lv_aload_n hx hb d_L_back_3 rfl (lv_at hl 0 rfl) ?_
  refine lv_iload_n hx hb d_L_back_4 rfl (lv_at hl 1 rfl) ?_
  refine lv_iload_n hx hb d_L_back_5 rfl (lv_at hl 2 rfl) ?_
  refine lv_lload_n hx hb d_L_back_6 rfl (lv_at hl 3 rfl) ?_
  refine ml_calll (va_runV (As := [.int (nI i), .int (nI j), .long x]) (rest := [.int (nI 0), .ref o]) ⟨hx, hb, hml, hown, hts⟩ (c_back_y l dC dI ad cI cJ n tc ki ra po se bc bs op pr pe pm _ i j x hji hjj hn hki hkj h1 h2) (cwV 3 hts (wAll_v kw_225 kw_226 kw_227 kw_1 kw_228) rfl rfl rfl (by decide +kernel) ⟨Nat.le_of_ble_eq_true rfl, Nat.le_of_ble_eq_true rfl⟩) (mu_preV hK (P_l hP) (D_l hD) (ci := 0) (q0 := 0) rfl rfl) rfl rfl hl.1 rfl (lv_room (Nat.le_of_ble_eq_true rfl)) d_L_back_7 ⟨Nat.le_of_ble_eq_true rfl, Nat.le_of_ble_eq_true rfl⟩) hP hD hS hA (fun z9 H locs hq hP hD hS => ?_)
  obtain rfl := hq
  have hP : va_P (dC, dI) vwCl ((cb_w ad cI cJ n tc ki ra (po_bk po i j x) se bc bs op pr pe pm) ++ [(o, .inl (cJ, 1, .inr (.inl ov)))]) H := hP
  have hD : va_D A ((cb_w ad cI cJ n tc ki ra (po_bk po i j x) se bc bs op pr pe pm) ++ [(o, .inl (cJ, 1, .inr (.inl ov)))]) := hD
  refine xa_lastore (f := ov) (x := po_bk po i j x i) hx hb hK hP hD hS 11 1 rfl rfl (j := 0) (by omega) (by decide) d_L_back_10 (fun H locs hP hD hS => ?_)
  have hP : va_P (dC, dI) vwCl ((cb_w ad cI cJ n tc ki ra (po_bk po i j x) se bc bs op pr pe pm) ++ [(o, .inl (cJ, 1, .inr (.inl (vp_updL ov 0 (po_bk po i j x i)))))]) H := hP
  have hD : va_D A ((cb_w ad cI cJ n tc ki ra (po_bk po i j x) se bc bs op pr pe pm) ++ [(o, .inl (cJ, 1, .inr (.inl (vp_updL ov 0 (po_bk po i j x i)))))]) := hD
  refine lv_goto (tgt := 18) hx hb d_L_back_11 (by decide) ?_
  refine lv_iconst (v := nI 0) hx hb d_L_back_18 (by decide) ?_
  refine W.widen (k := 1) (n := 6) (Nat.le_of_ble_eq_true rfl) (Nat.le_of_ble_eq_true rfl) ?_
  exact W.iret (v := nI 0) hx hb hr (fun t ht hW => ⟨⟨nI 0, (), rfl, rfl, by rw [ht]; exact hP, va_K.moved hW.alike hK, hD⟩, hS.F ht⟩) hS.2.2 d_L_back_19
set_option maxHeartbeats 4000000 in
set_option maxRecDepth 100000 in
theorem w_back_ta (l : Launch) (dC : Nat → ClassId) (dI : Nat → Nat → Nat) (ad : Nat → Nat) (cI cJ : ClassId) (n tc : Nat) (ki ra : Nat → Int32) (po se : Nat → Int64) (bc : Nat → Int32) (bs op : Nat → Int64) (pr pe : Nat → Int32) (pm : Nat → Int64) (o : Nat) (ov : Nat → Int64) (sz : Nat) (a b : Int32) (x : Int64) (hn : n ≤ 15) (hno : ¬ is_k n ki a (nI 1)) (hl0 : l.stackTraces = false) : Met l y_L_back (.codeWith y_L_back b_L_back 7 (some .int) [(0, 11, 14, 13)] :: wAll) ({ frames := 8, cells := 1, slots := 6, locals := 137 } : Room) (mx_P [.ref (ad 0), .int a, .int b, .long x, .ref o] (dC, dI) vwCl [(cI, .int), (cJ, .long)] ((cb_w ad cI cJ n tc ki ra po se bc bs op pr pe pm) ++ [(o, .inl (cJ, 1, .inr (.inl ov)))]) sz) (va_Qi (fun (z : Int32) (_ : Unit) => z = nI 1) (mu_B (dC, dI) vwCl [(cI, .int), (cJ, .long)] (va_A ((cb_w ad cI cJ n tc ki ra po se bc bs op pr pe pm) ++ [(o, .inl (cJ, 1, .inr (.inl ov)))]) sz) ((cb_w ad cI cJ n tc ki ra po se bc bs op pr pe pm) ++ [(o, .inl (cJ, 1, .inr (.inl ov)))])) (va_A ((cb_w ad cI cJ n tc ki ra po se bc bs op pr pe pm) ++ [(o, .inl (cJ, 1, .inr (.inl ov)))]) sz)) 1 6 (va_A ((cb_w ad cI cJ n tc ki ra po se bc bs op pr pe pm) ++ [(o, .inl (cJ, 1, .inr (.inl ov)))]) sz) := by
  refine va_MetW (cc := b_L_back) (maxL := 7) (ret := some .int) (hh := [(0, 11, 14, 13)]) (by decide) rfl ?_
  intro p e s m args below meth c s₁ B hml hv
  obtain ⟨rfl, hsz, hP, hK, hD0, hB⟩ := hv
  have hx := B.exec
  have hb := B.bytes
  have hr := B.returns
  have hts0 := atoms_spec (ws := (.codeWith y_L_back b_L_back 7 (some .int) [(0, 11, 14, 13)] :: wAll)) B.pre
  have hts := hts_all hts0
  have hown : s.vm.findClass "ClearingBooksLaw" = some m.cls := findClass_of_methodNamed B.named
  have hlocks := B.notSynchronized
  subst hsz
  have hD := hD0.self (sz := s.heap.size)
  generalize hAe : va_A ((cb_w ad cI cJ n tc ki ra po se bc bs op pr pe pm) ++ [(o, .inl (cJ, 1, .inr (.inl ov)))]) s.heap.size = A at hD ⊢
  have hA : ∀ q : Nat, s.heap.size ≤ q → A q := fun q h => by rw [← hAe]; exact Or.inr h
  have hS : va_S A s.heap s.heap [] := va_S.rf
  have htab : c.exceptionTable.toList = [⟨0, 11, 14, 13⟩] := xw_table (Stand.of_body B) B.named (hts0 _ List.mem_cons_self)
  have hl := lv_entry ([.ref (ad 0), .int a, .int b, .long x, .ref o]) (n := 7) (Nat.le_of_ble_eq_true rfl)
  rw [lg_entry_eq]
  generalize (lg_sl ([.ref (ad 0), .int a, .int b, .long x, .ref o]) ++ List.replicate (7 - (lg_sl ([.ref (ad 0), .int a, .int b, .long x, .ref o])).length) Slot.unset).toArray = ls at hl ⊢
  have hl : lv_has ls 7 [(0, .ref (ad 0)), (1, .int a), (2, .int b), (3, .long x), (5, .ref o)] := hl
  refine lv_aload hx hb d_L_back_0 (lv_at hl 4 rfl) ?_
  refine lv_iconst (v := nI 0) hx hb d_L_back_2 (by decide) ?_
  refine lv_aload_n hx hb d_L_back_3 rfl (lv_at hl 0 rfl) ?_
  refine lv_iload_n hx hb d_L_back_4 rfl (lv_at hl 1 rfl) ?_
  refine lv_iload_n hx hb d_L_back_5 rfl (lv_at hl 2 rfl) ?_
  refine lv_lload_n hx hb d_L_back_6 rfl (lv_at hl 3 rfl) ?_
  refine xt_catch (name := "java/lang/IllegalArgumentException") (xt_runV (As := [.int a, .int b, .long x]) (rest := [.int (nI 0), .ref o]) ⟨hx, hb, hml, hown, hts⟩ (c_back_ta l dC dI ad cI cJ n tc ki ra po se bc bs op pr pe pm a b x hn hno hl0) (cwV 3 hts (wAll_v kw_225 kw_226 kw_227 kw_1 kw_228) rfl rfl rfl (by decide +kernel) ⟨Nat.le_of_ble_eq_true rfl, Nat.le_of_ble_eq_true rfl⟩) (ro_preV bl_xc hK (P_l hP) (ci := 0) (q0 := 0) rfl rfl (fun U hU hW => xc_moved hB hW (fun q _ => by rw [hU]))) rfl rfl hl.1 rfl (lv_room (Nat.le_of_ble_eq_true rfl)) d_L_back_7 ⟨Nat.le_of_ble_eq_true rfl, Nat.le_of_ble_eq_true rfl⟩) hown [] ⟨0, 11, 14, 13⟩ [] htab (fun z hz => by cases hz) (by decide) (by decide) (hts _ kw_94) (hB.2.2.1 _ (List.mem_of_getElem? (l := xc_f) (i := 0) rfl)) (fun q9 H hz9 hk9 => ?_)
  have hS : va_S A s.heap H [] := ⟨hz9, fun q h1 _ => hk9 q h1, fun _ h => by cases h⟩
  have hP : va_P (dC, dI) vwCl ((cb_w ad cI cJ n tc ki ra po se bc bs op pr pe pm) ++ [(o, .inl (cJ, 1, .inr (.inl ov)))]) H := hP.kept (fun k x hx => hk9 x.1 (hP k x hx).lt)
  refine lv_astore (lv' := [(6, .ref q9), (0, .ref (ad 0)), (1, .int a), (2, .int b), (3, .long x), (5, .ref o)]) hx hb d_L_back_14 hl (by decide) rfl (fun ls hl => ?_)
  refine lv_iconst (v := nI 1) hx hb d_L_back_16 (by decide) ?_
  refine W.widen (k := 1) (n := 6) (Nat.le_of_ble_eq_true rfl) (Nat.le_of_ble_eq_true rfl) ?_
  exact W.iret (v := nI 1) hx hb hr (fun t ht hW => ⟨⟨nI 1, (), rfl, rfl, by rw [ht]; exact hP, va_K.moved hW.alike hK, hD⟩, hS.F ht⟩) hS.2.2 d_L_back_17
set_option maxHeartbeats 4000000 in
set_option maxRecDepth 100000 in
theorem w_back_tb (l : Launch) (dC : Nat → ClassId) (dI : Nat → Nat → Nat) (ad : Nat → Nat) (cI cJ : ClassId) (n tc : Nat) (ki ra : Nat → Int32) (po se : Nat → Int64) (bc : Nat → Int32) (bs op : Nat → Int64) (pr pe : Nat → Int32) (pm : Nat → Int64) (o : Nat) (ov : Nat → Int64) (sz : Nat) (i : Nat) (b : Int32) (x : Int64) (hji : i < n) (hn : n ≤ 15) (hki : ki i = nI 1) (hno : ¬ is_k n ki b (nI 2)) (hl0 : l.stackTraces = false) : Met l y_L_back (.codeWith y_L_back b_L_back 7 (some .int) [(0, 11, 14, 13)] :: wAll) ({ frames := 8, cells := 1, slots := 6, locals := 137 } : Room) (mx_P [.ref (ad 0), .int (nI i), .int b, .long x, .ref o] (dC, dI) vwCl [(cI, .int), (cJ, .long)] ((cb_w ad cI cJ n tc ki ra po se bc bs op pr pe pm) ++ [(o, .inl (cJ, 1, .inr (.inl ov)))]) sz) (va_Qi (fun (z : Int32) (_ : Unit) => z = nI 1) (mu_B (dC, dI) vwCl [(cI, .int), (cJ, .long)] (va_A ((cb_w ad cI cJ n tc ki ra po se bc bs op pr pe pm) ++ [(o, .inl (cJ, 1, .inr (.inl ov)))]) sz) ((cb_w ad cI cJ n tc ki ra po se bc bs op pr pe pm) ++ [(o, .inl (cJ, 1, .inr (.inl ov)))])) (va_A ((cb_w ad cI cJ n tc ki ra po se bc bs op pr pe pm) ++ [(o, .inl (cJ, 1, .inr (.inl ov)))]) sz)) 1 6 (va_A ((cb_w ad cI cJ n tc ki ra po se bc bs op pr pe pm) ++ [(o, .inl (cJ, 1, .inr (.inl ov)))]) sz) := by
  refine va_MetW (cc := b_L_back) (maxL := 7) (ret := some .int) (hh := [(0, 11, 14, 13)]) (by decide) rfl ?_
  intro p e s m args below meth c s₁ B hml hv
  obtain ⟨rfl, hsz, hP, hK, hD0, hB⟩ := hv
  have hx := B.exec
  have hb := B.bytes
  have hr := B.returns
  have hts0 := atoms_spec (ws := (.codeWith y_L_back b_L_back 7 (some .int) [(0, 11, 14, 13)] :: wAll)) B.pre
  have hts := hts_all hts0
  have hown : s.vm.findClass "ClearingBooksLaw" = some m.cls := findClass_of_methodNamed B.named
  have hlocks := B.notSynchronized
  subst hsz
  have hD := hD0.self (sz := s.heap.size)
  generalize hAe : va_A ((cb_w ad cI cJ n tc ki ra po se bc bs op pr pe pm) ++ [(o, .inl (cJ, 1, .inr (.inl ov)))]) s.heap.size = A at hD ⊢
  have hA : ∀ q : Nat, s.heap.size ≤ q → A q := fun q h => by rw [← hAe]; exact Or.inr h
  have hS : va_S A s.heap s.heap [] := va_S.rf
  have htab : c.exceptionTable.toList = [⟨0, 11, 14, 13⟩] := xw_table (Stand.of_body B) B.named (hts0 _ List.mem_cons_self)
  have hl := lv_entry ([.ref (ad 0), .int (nI i), .int b, .long x, .ref o]) (n := 7) (Nat.le_of_ble_eq_true rfl)
  rw [lg_entry_eq]
  generalize (lg_sl ([.ref (ad 0), .int (nI i), .int b, .long x, .ref o]) ++ List.replicate (7 - (lg_sl ([.ref (ad 0), .int (nI i), .int b, .long x, .ref o])).length) Slot.unset).toArray = ls at hl ⊢
  have hl : lv_has ls 7 [(0, .ref (ad 0)), (1, .int (nI i)), (2, .int b), (3, .long x), (5, .ref o)] := hl
  refine lv_aload hx hb d_L_back_0 (lv_at hl 4 rfl) ?_
  refine lv_iconst (v := nI 0) hx hb d_L_back_2 (by decide) ?_
  refine lv_aload_n hx hb d_L_back_3 rfl (lv_at hl 0 rfl) ?_
  refine lv_iload_n hx hb d_L_back_4 rfl (lv_at hl 1 rfl) ?_
  refine lv_iload_n hx hb d_L_back_5 rfl (lv_at hl 2 rfl) ?_
  refine lv_lload_n hx hb d_L_back_6 rfl (lv_at hl 3 rfl) ?_
  refine xt_catch (name := "java/lang/IllegalArgumentException") (xt_runV (As := [.int (nI i), .int b, .long x]) (rest := [.int (nI 0), .ref o]) ⟨hx, hb, hml, hown, hts⟩ (c_back_tb l dC dI ad cI cJ n tc ki ra po se bc bs op pr pe pm i b x hji hn hki hno hl0) (cwV 3 hts (wAll_v kw_225 kw_226 kw_227 kw_1 kw_228) rfl rfl rfl (by decide +kernel) ⟨Nat.le_of_ble_eq_true rfl, Nat.le_of_ble_eq_true rfl⟩) (ro_preV bl_xc hK (P_l hP) (ci := 0) (q0 := 0) rfl rfl (fun U hU hW => xc_moved hB hW (fun q _ => by rw [hU]))) rfl rfl hl.1 rfl (lv_room (Nat.le_of_ble_eq_true rfl)) d_L_back_7 ⟨Nat.le_of_ble_eq_true rfl, Nat.le_of_ble_eq_true rfl⟩) hown [] ⟨0, 11, 14, 13⟩ [] htab (fun z hz => by cases hz) (by decide) (by decide) (hts _ kw_94) (hB.2.2.1 _ (List.mem_of_getElem? (l := xc_f) (i := 0) rfl)) (fun q9 H hz9 hk9 => ?_)
  have hS : va_S A s.heap H [] := ⟨hz9, fun q h1 _ => hk9 q h1, fun _ h => by cases h⟩
  have hP : va_P (dC, dI) vwCl ((cb_w ad cI cJ n tc ki ra po se bc bs op pr pe pm) ++ [(o, .inl (cJ, 1, .inr (.inl ov)))]) H := hP.kept (fun k x hx => hk9 x.1 (hP k x hx).lt)
  refine lv_astore (lv' := [(6, .ref q9), (0, .ref (ad 0)), (1, .int (nI i)), (2, .int b), (3, .long x), (5, .ref o)]) hx hb d_L_back_14 hl (by decide) rfl (fun ls hl => ?_)
  refine lv_iconst (v := nI 1) hx hb d_L_back_16 (by decide) ?_
  refine W.widen (k := 1) (n := 6) (Nat.le_of_ble_eq_true rfl) (Nat.le_of_ble_eq_true rfl) ?_
  exact W.iret (v := nI 1) hx hb hr (fun t ht hW => ⟨⟨nI 1, (), rfl, rfl, by rw [ht]; exact hP, va_K.moved hW.alike hK, hD⟩, hS.F ht⟩) hS.2.2 d_L_back_17
set_option maxHeartbeats 4000000 in
set_option maxRecDepth 100000 in
theorem w_back_tx (l : Launch) (dC : Nat → ClassId) (dI : Nat → Nat → Nat) (ad : Nat → Nat) (cI cJ : ClassId) (n tc : Nat) (ki ra : Nat → Int32) (po se : Nat → Int64) (bc : Nat → Int32) (bs op : Nat → Int64) (pr pe : Nat → Int32) (pm : Nat → Int64) (o : Nat) (ov : Nat → Int64) (sz : Nat) (i j : Nat) (x : Int64) (hji : i < n) (hjj : j < n) (hn : n ≤ 15) (hki : ki i = nI 1) (hkj : ki j = nI 2) (hno : ¬ (¬ x < (-1000000000000) ∧ ¬ 1000000000000 < x)) (hl0 : l.stackTraces = false) : Met l y_L_back (.codeWith y_L_back b_L_back 7 (some .int) [(0, 11, 14, 13)] :: wAll) ({ frames := 8, cells := 1, slots := 6, locals := 137 } : Room) (mx_P [.ref (ad 0), .int (nI i), .int (nI j), .long x, .ref o] (dC, dI) vwCl [(cI, .int), (cJ, .long)] ((cb_w ad cI cJ n tc ki ra po se bc bs op pr pe pm) ++ [(o, .inl (cJ, 1, .inr (.inl ov)))]) sz) (va_Qi (fun (z : Int32) (_ : Unit) => z = nI 1) (mu_B (dC, dI) vwCl [(cI, .int), (cJ, .long)] (va_A ((cb_w ad cI cJ n tc ki ra po se bc bs op pr pe pm) ++ [(o, .inl (cJ, 1, .inr (.inl ov)))]) sz) ((cb_w ad cI cJ n tc ki ra po se bc bs op pr pe pm) ++ [(o, .inl (cJ, 1, .inr (.inl ov)))])) (va_A ((cb_w ad cI cJ n tc ki ra po se bc bs op pr pe pm) ++ [(o, .inl (cJ, 1, .inr (.inl ov)))]) sz)) 1 6 (va_A ((cb_w ad cI cJ n tc ki ra po se bc bs op pr pe pm) ++ [(o, .inl (cJ, 1, .inr (.inl ov)))]) sz) := by
  refine va_MetW (cc := b_L_back) (maxL := 7) (ret := some .int) (hh := [(0, 11, 14, 13)]) (by decide) rfl ?_
  intro p e s m args below meth c s₁ B hml hv
  obtain ⟨rfl, hsz, hP, hK, hD0, hB⟩ := hv
  have hx := B.exec
  have hb := B.bytes
  have hr := B.returns
  have hts0 := atoms_spec (ws := (.codeWith y_L_back b_L_back 7 (some .int) [(0, 11, 14, 13)] :: wAll)) B.pre
  have hts := hts_all hts0
  have hown : s.vm.findClass "ClearingBooksLaw" = some m.cls := findClass_of_methodNamed B.named
  have hlocks := B.notSynchronized
  subst hsz
  have hD := hD0.self (sz := s.heap.size)
  generalize hAe : va_A ((cb_w ad cI cJ n tc ki ra po se bc bs op pr pe pm) ++ [(o, .inl (cJ, 1, .inr (.inl ov)))]) s.heap.size = A at hD ⊢
  have hA : ∀ q : Nat, s.heap.size ≤ q → A q := fun q h => by rw [← hAe]; exact Or.inr h
  have hS : va_S A s.heap s.heap [] := va_S.rf
  have htab : c.exceptionTable.toList = [⟨0, 11, 14, 13⟩] := xw_table (Stand.of_body B) B.named (hts0 _ List.mem_cons_self)
  have hl := lv_entry ([.ref (ad 0), .int (nI i), .int (nI j), .long x, .ref o]) (n := 7) (Nat.le_of_ble_eq_true rfl)
  rw [lg_entry_eq]
  generalize (lg_sl ([.ref (ad 0), .int (nI i), .int (nI j), .long x, .ref o]) ++ List.replicate (7 - (lg_sl ([.ref (ad 0), .int (nI i), .int (nI j), .long x, .ref o])).length) Slot.unset).toArray = ls at hl ⊢
  have hl : lv_has ls 7 [(0, .ref (ad 0)), (1, .int (nI i)), (2, .int (nI j)), (3, .long x), (5, .ref o)] := hl
  refine lv_aload hx hb d_L_back_0 (lv_at hl 4 rfl) ?_
  refine lv_iconst (v := nI 0) hx hb d_L_back_2 (by decide) ?_
  refine lv_aload_n hx hb d_L_back_3 rfl (lv_at hl 0 rfl) ?_
  refine lv_iload_n hx hb d_L_back_4 rfl (lv_at hl 1 rfl) ?_
  refine lv_iload_n hx hb d_L_back_5 rfl (lv_at hl 2 rfl) ?_
  refine lv_lload_n hx hb d_L_back_6 rfl (lv_at hl 3 rfl) ?_
  refine xt_catch (name := "java/lang/IllegalArgumentException") (xt_runV (As := [.int (nI i), .int (nI j), .long x]) (rest := [.int (nI 0), .ref o]) ⟨hx, hb, hml, hown, hts⟩ (c_back_tx l dC dI ad cI cJ n tc ki ra po se bc bs op pr pe pm i j x hji hjj hn hki hkj hno hl0) (cwV 3 hts (wAll_v kw_225 kw_226 kw_227 kw_1 kw_228) rfl rfl rfl (by decide +kernel) ⟨Nat.le_of_ble_eq_true rfl, Nat.le_of_ble_eq_true rfl⟩) (ro_preV bl_xc hK (P_l hP) (ci := 0) (q0 := 0) rfl rfl (fun U hU hW => xc_moved hB hW (fun q _ => by rw [hU]))) rfl rfl hl.1 rfl (lv_room (Nat.le_of_ble_eq_true rfl)) d_L_back_7 ⟨Nat.le_of_ble_eq_true rfl, Nat.le_of_ble_eq_true rfl⟩) hown [] ⟨0, 11, 14, 13⟩ [] htab (fun z hz => by cases hz) (by decide) (by decide) (hts _ kw_94) (hB.2.2.1 _ (List.mem_of_getElem? (l := xc_f) (i := 0) rfl)) (fun q9 H hz9 hk9 => ?_)
  have hS : va_S A s.heap H [] := ⟨hz9, fun q h1 _ => hk9 q h1, fun _ h => by cases h⟩
  have hP : va_P (dC, dI) vwCl ((cb_w ad cI cJ n tc ki ra po se bc bs op pr pe pm) ++ [(o, .inl (cJ, 1, .inr (.inl ov)))]) H := hP.kept (fun k x hx => hk9 x.1 (hP k x hx).lt)
  refine lv_astore (lv' := [(6, .ref q9), (0, .ref (ad 0)), (1, .int (nI i)), (2, .int (nI j)), (3, .long x), (5, .ref o)]) hx hb d_L_back_14 hl (by decide) rfl (fun ls hl => ?_)
  refine lv_iconst (v := nI 1) hx hb d_L_back_16 (by decide) ?_
  refine W.widen (k := 1) (n := 6) (Nat.le_of_ble_eq_true rfl) (Nat.le_of_ble_eq_true rfl) ?_
  exact W.iret (v := nI 1) hx hb hr (fun t ht hW => ⟨⟨nI 1, (), rfl, rfl, by rw [ht]; exact hP, va_K.moved hW.alike hK, hD⟩, hS.F ht⟩) hS.2.2 d_L_back_17
