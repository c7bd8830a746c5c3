set_option maxHeartbeats 4000000 in
set_option maxRecDepth 100000 in
theorem c_enter_y (l : Launch) (dC : Nat → ClassId) (dI : Nat → Nat → Nat) (ad : Nat → Nat) (cI cJ : ClassId) (n tc : Nat) (ki ra : Nat → Int32) (po se : Nat → Int64) (bc : Nat → Int32) (bs op : Nat → Int64) (pr pe : Nat → Int32) (pm : Nat → Int64) (sz : Nat) (k : Int32) (r : Nat) (hr0 : r ≤ 1000) (hn : n < 15) : Met l y_B_enter (.code y_B_enter b_B_enter 4 (some .int) :: wAll) ({ frames := 0, cells := 0, slots := 0, locals := 0 } : Room) (mu_P [.ref (ad 0), .int k, .int (nI r)] (dC, dI) vwCl [(cI, .int), (cJ, .long)] (cb_w ad cI cJ n tc ki ra po se bc bs op pr pe pm) sz) (va_Qi (fun (z : Int32) (_ : Unit) => z = nI n) (mu_B (dC, dI) vwCl [(cI, .int), (cJ, .long)] (va_A (cb_w ad cI cJ n tc ki ra po se bc bs op pr pe pm) sz) (cb_w ad cI cJ (n + 1) tc (upd ki n k) (upd ra n (nI r)) po se bc bs op pr pe pm)) (va_A (cb_w ad cI cJ n tc ki ra po se bc bs op pr pe pm) sz)) 0 0 (va_A (cb_w ad cI cJ n tc ki ra po se bc bs op pr pe pm) sz) := by
  refine Met.ofW (cc := b_B_enter) (maxL := 4) (ret := (some .int)) (by decide) rfl ?_
  intro p e s m args below meth c s₁ B hml hv
  obtain ⟨rfl, hsz, hP, hK, hD0⟩ := hv
  have hx := B.exec
  have hb := B.bytes
  have hr := B.returns
  have hts0 := atoms_spec (ws := (.code y_B_enter b_B_enter 4 (some .int) :: wAll)) B.pre
  have hts := hts_all hts0
  have hown : s.vm.findClass "ClearingBooks" = some m.cls := findClass_of_methodNamed B.named
  have hlocks := B.notSynchronized
  subst hsz
  have hD := hD0.self (sz := s.heap.size)
  generalize hAe : va_A (cb_w ad cI cJ n tc ki ra po se bc bs op pr pe pm) s.heap.size = A at hD ⊢
  have hA : ∀ q : Nat, s.heap.size ≤ q → A q := fun q h => by rw [← hAe]; exact Or.inr h
  have hS : va_S A s.heap s.heap [] := va_S.rf
  have hl := lv_entry ([.ref (ad 0), .int k, .int (nI r)]) (n := 4) (Nat.le_of_ble_eq_true rfl)
  rw [lg_entry_eq]
  generalize (lg_sl ([.ref (ad 0), .int k, .int (nI r)]) ++ List.replicate (4 - (lg_sl ([.ref (ad 0), .int k, .int (nI r)])).length) Slot.unset).toArray = ls at hl ⊢
  have hl : lv_has ls 4 [(0, .ref (ad 0)), (1, .int k), (2, .int (nI r))] := hl
  refine lv_iload_n hx hb d_B_enter_0 rfl (lv_at hl 2 rfl) ?_
  refine lv_if_lt (tgt := 11) hx hb d_B_enter_1 (by decide) (fun c1 => ?_) (fun c1 => ?_)
  · exact absurd c1 (nI_pos (by omega))
  · refine lv_iload_n hx hb d_B_enter_4 rfl (lv_at hl 2 rfl) ?_
    refine lv_sipush (v := nI 1000) hx hb d_B_enter_5 (by decide) ?_
    refine lv_icmp_le (tgt := 21) hx hb d_B_enter_8 (by decide) (fun c2 => ?_) (fun c2 => ?_)
    · replace c2 := (nI_leI (by omega) (by omega)).mp c2
      refine lv_aload_n hx hb d_B_enter_21 rfl (lv_at hl 0 rfl) ?_
      refine va_get (D := (dC, dI)) (ci := 0) (v := .int (nI n)) (C := "ClearingBooks") (T := T_B) (N := 12) hx hb hts wi_B hown hK hP 0 rfl rfl 0 (by decide) (hts _ kw_17) (fun _ h9 => h9) rfl d_B_enter_22 ?_
      refine lv_bipush (v := nI 15) hx hb d_B_enter_25 (by decide) ?_
      refine lv_icmp_lt (tgt := 40) hx hb d_B_enter_27 (by decide) (fun c3 => ?_) (fun c3 => ?_)
      · replace c3 := (nI_ltI (by omega) (by omega)).mp c3
        refine lv_aload_n hx hb d_B_enter_40 rfl (lv_at hl 0 rfl) ?_
        refine va_get (D := (dC, dI)) (ci := 0) (v := .int (nI n)) (C := "ClearingBooks") (T := T_B) (N := 12) hx hb hts wi_B hown hK hP 0 rfl rfl 0 (by decide) (hts _ kw_17) (fun _ h9 => h9) rfl d_B_enter_41 ?_
        refine lv_istore_n (lv' := [(3, .int (nI n)), (0, .ref (ad 0)), (1, .int k), (2, .int (nI r))]) hx hb d_B_enter_44 rfl hl (by decide) rfl (fun ls hl => ?_)
        refine lv_aload_n hx hb d_B_enter_45 rfl (lv_at hl 1 rfl) ?_
        refine va_get (D := (dC, dI)) (ci := 0) (v := .ref (ad 1)) (C := "ClearingBooks") (T := T_B) (N := 12) hx hb hts wi_B hown hK hP 0 rfl rfl 1 (by decide) (hts _ kw_18) (fun _ h9 => h9) rfl d_B_enter_46 ?_
        refine lv_iload_n hx hb d_B_enter_49 rfl (lv_at hl 0 rfl) ?_
        refine lv_iload_n hx hb d_B_enter_50 rfl (lv_at hl 2 rfl) ?_
        refine xa_iastore (f := ki) (x := k) hx hb hK hP hD hS 1 0 rfl rfl (j := n) (by omega) (by decide) d_B_enter_51 (fun H locs hP hD hS => ?_)
        have hP : va_P (dC, dI) vwCl (cb_w ad cI cJ n tc (upd ki n k) ra po se bc bs op pr pe pm) H := hP
        have hD : va_D A (cb_w ad cI cJ n tc (upd ki n k) ra po se bc bs op pr pe pm) := hD
        refine lv_aload_n hx hb d_B_enter_52 rfl (lv_at hl 1 rfl) ?_
        refine va_get (D := (dC, dI)) (ci := 0) (v := .ref (ad 2)) (C := "ClearingBooks") (T := T_B) (N := 12) hx hb hts wi_B hown hK hP 0 rfl rfl 2 (by decide) (hts _ kw_19) (fun _ h9 => h9) rfl d_B_enter_53 ?_
        refine lv_iload_n hx hb d_B_enter_56 rfl (lv_at hl 0 rfl) ?_
        refine lv_iload_n hx hb d_B_enter_57 rfl (lv_at hl 3 rfl) ?_
        refine xa_iastore (f := ra) (x := nI r) hx hb hK hP hD hS 2 0 rfl rfl (j := n) (by omega) (by decide) d_B_enter_58 (fun H locs hP hD hS => ?_)
        have hP : va_P (dC, dI) vwCl (cb_w ad cI cJ n tc (upd ki n k) (upd ra n (nI r)) po se bc bs op pr pe pm) H := hP
        have hD : va_D A (cb_w ad cI cJ n tc (upd ki n k) (upd ra n (nI r)) po se bc bs op pr pe pm) := hD
        refine lv_aload_n hx hb d_B_enter_59 rfl (lv_at hl 1 rfl) ?_
        refine lv_dup hx hb d_B_enter_60 rfl ?_
        refine va_get (D := (dC, dI)) (ci := 0) (v := .int (nI n)) (C := "ClearingBooks") (T := T_B) (N := 12) hx hb hts wi_B hown hK hP 0 rfl rfl 0 (by decide) (hts _ kw_17) (fun _ h9 => h9) rfl d_B_enter_61 ?_
        refine lv_iconst (v := nI 1) hx hb d_B_enter_64 (by decide) ?_
        refine t_iadd hx hb d_B_enter_65 (v := nI (n + 1)) (nI_add n 1) ?_
        refine va_put (D := (dC, dI)) (ci := 0) (v := .int (nI (n + 1))) (ty := .int) (C := "ClearingBooks") (T := T_B) (N := 12) hx hb hts wi_B ty_B tyok_B nm_B hown hK hP hD hS 0 rfl rfl 0 (by decide) (hts _ kw_17) (fun _ h9 => h9) rfl (by decide +kernel) rfl rfl (Nat.le_of_ble_eq_true rfl) d_B_enter_66 (fun H locs hP hD hS => ?_)
        have hP : va_P (dC, dI) vwCl (cb_w ad cI cJ (n + 1) tc (upd ki n k) (upd ra n (nI r)) po se bc bs op pr pe pm) H := hP
        have hD : va_D A (cb_w ad cI cJ (n + 1) tc (upd ki n k) (upd ra n (nI r)) po se bc bs op pr pe pm) := hD
        refine lv_iload_n hx hb d_B_enter_69 rfl (lv_at hl 0 rfl) ?_
        exact W.iret (v := nI n) hx hb hr (fun t ht hW => ⟨⟨nI n, (), rfl, rfl, by rw [ht]; exact hP, va_K.moved hW.alike hK, hD⟩, hS.F ht⟩) hS.2.2 d_B_enter_70
      · replace c3 := mt (nI_ltI (by omega) (by omega)).mpr c3
        exact absurd hn c3
    · replace c2 := mt (nI_leI (by omega) (by omega)).mpr c2
      exact absurd hr0 c2
set_option maxHeartbeats 4000000 in
set_option maxRecDepth 100000 in
theorem c_enter_ta (l : Launch) (dC : Nat → ClassId) (dI : Nat → Nat → Nat) (ad : Nat → Nat) (cI cJ : ClassId) (n tc : Nat) (ki ra : Nat → Int32) (po se : Nat → Int64) (bc : Nat → Int32) (bs op : Nat → Int64) (pr pe : Nat → Int32) (pm : Nat → Int64) (k x : Int32) (hno : ¬ (¬ x < 0 ∧ x ≤ nI 1000)) (hl0 : l.stackTraces = false) : xt_Met l y_B_enter (.code y_B_enter b_B_enter 4 (some .int) :: wAll) ({ frames := 6, cells := 1, slots := 6, locals := 90 } : Room) (ro_P [.ref (ad 0), .int k, .int x] (dC, dI) vwCl [(cI, .int), (cJ, .long)] (cb_w ad cI cJ n tc ki ra po se bc bs op pr pe pm) (xc_ok "ClearingBooks" cb_ks)) "java/lang/IllegalArgumentException" 1 6 := by
  refine xt_ofW (cc := b_B_enter) (maxL := 4) (ret := (some .int)) (by decide) rfl ?_
  intro p e s m args below meth c s₁ B hml hv
  obtain ⟨rfl, hP, hK, hB⟩ := hv
  have hx := B.exec
  have hb := B.bytes
  have hr := B.returns
  have hts0 := atoms_spec (ws := (.code y_B_enter b_B_enter 4 (some .int) :: wAll)) B.pre
  have hts := hts_all hts0
  have hown : s.vm.findClass "ClearingBooks" = some m.cls := findClass_of_methodNamed B.named
  have hlocks := B.notSynchronized
  have hnh := B.noHandlers (hts0 _ List.mem_cons_self)
  have hout : ∀ pc9 : Nat, ∀ x ∈ c.exceptionTable.toList, covers x pc9 = false := fun pc9 x hx9 => by rw [xt_nil hnh] at hx9; cases hx9
  have hl := lv_entry ([.ref (ad 0), .int k, .int x]) (n := 4) (Nat.le_of_ble_eq_true rfl)
  rw [lg_entry_eq]
  generalize (lg_sl ([.ref (ad 0), .int k, .int x]) ++ List.replicate (4 - (lg_sl ([.ref (ad 0), .int k, .int x])).length) Slot.unset).toArray = ls at hl ⊢
  have hl : lv_has ls 4 [(0, .ref (ad 0)), (1, .int k), (2, .int x)] := hl
  refine lv_iload_n hx hb d_B_enter_0 rfl (lv_at hl 2 rfl) ?_
  refine lv_if_lt (tgt := 11) hx hb d_B_enter_1 (by decide) (fun c1 => ?_) (fun c1 => ?_)
  · obtain ⟨sa, hsa⟩ := hB.2.1 _ (List.mem_of_getElem? (l := cb_ks) (i := 0) rfl)
    exact xt_throw (names := ["java/lang/RuntimeException", "java/lang/Exception"]) hx hb hl0 hown (by decide) (by decide) (hts _ kw_104) (hts _ kw_6) hsa (xc_atoms hB hts at_iae) (by rw [hml]; exact hl.1) (Nat.le_refl _) d_B_enter_11 d_B_enter_14 d_B_enter_15 d_B_enter_17 d_B_enter_20 (hout _) (Nat.le_of_ble_eq_true rfl) (Nat.le_of_ble_eq_true rfl) (Nat.le_of_ble_eq_true rfl) (Nat.le_of_ble_eq_true rfl) hlocks (Nat.le_of_ble_eq_true rfl) (Nat.le_of_ble_eq_true rfl)
  · refine lv_iload_n hx hb d_B_enter_4 rfl (lv_at hl 2 rfl) ?_
    refine lv_sipush (v := nI 1000) hx hb d_B_enter_5 (by decide) ?_
    refine lv_icmp_le (tgt := 21) hx hb d_B_enter_8 (by decide) (fun c2 => ?_) (fun c2 => ?_)
    · exact absurd ⟨c1, c2⟩ hno
    · obtain ⟨sa, hsa⟩ := hB.2.1 _ (List.mem_of_getElem? (l := cb_ks) (i := 0) rfl)
      exact xt_throw (names := ["java/lang/RuntimeException", "java/lang/Exception"]) hx hb hl0 hown (by decide) (by decide) (hts _ kw_104) (hts _ kw_6) hsa (xc_atoms hB hts at_iae) (by rw [hml]; exact hl.1) (Nat.le_refl _) d_B_enter_11 d_B_enter_14 d_B_enter_15 d_B_enter_17 d_B_enter_20 (hout _) (Nat.le_of_ble_eq_true rfl) (Nat.le_of_ble_eq_true rfl) (Nat.le_of_ble_eq_true rfl) (Nat.le_of_ble_eq_true rfl) hlocks (Nat.le_of_ble_eq_true rfl) (Nat.le_of_ble_eq_true rfl)
set_option maxHeartbeats 4000000 in
set_option maxRecDepth 100000 in
theorem c_enter_ts (l : Launch) (dC : Nat → ClassId) (dI : Nat → Nat → Nat) (ad : Nat → Nat) (cI cJ : ClassId) (n tc : Nat) (ki ra : Nat → Int32) (po se : Nat → Int64) (bc : Nat → Int32) (bs op : Nat → Int64) (pr pe : Nat → Int32) (pm : Nat → Int64) (k : Int32) (r : Nat) (hr0 : r ≤ 1000) (hn : n = 15) (hl0 : l.stackTraces = false) : xt_Met l y_B_enter (.code y_B_enter b_B_enter 4 (some .int) :: wAll) ({ frames := 6, cells := 1, slots := 6, locals := 90 } : Room) (ro_P [.ref (ad 0), .int k, .int (nI r)] (dC, dI) vwCl [(cI, .int), (cJ, .long)] (cb_w ad cI cJ n tc ki ra po se bc bs op pr pe pm) (xc_ok "ClearingBooks" cb_ks)) "java/lang/IllegalStateException" 1 6 := by
  refine xt_ofW (cc := b_B_enter) (maxL := 4) (ret := (some .int)) (by decide) rfl ?_
  intro p e s m args below meth c s₁ B hml hv
  obtain ⟨rfl, hP, hK, hB⟩ := hv
  have hx := B.exec
  have hb := B.bytes
  have hr := B.returns
  have hts0 := atoms_spec (ws := (.code y_B_enter b_B_enter 4 (some .int) :: wAll)) B.pre
  have hts := hts_all hts0
  have hown : s.vm.findClass "ClearingBooks" = some m.cls := findClass_of_methodNamed B.named
  have hlocks := B.notSynchronized
  have hnh := B.noHandlers (hts0 _ List.mem_cons_self)
  have hout : ∀ pc9 : Nat, ∀ x ∈ c.exceptionTable.toList, covers x pc9 = false := fun pc9 x hx9 => by rw [xt_nil hnh] at hx9; cases hx9
  have hl := lv_entry ([.ref (ad 0), .int k, .int (nI r)]) (n := 4) (Nat.le_of_ble_eq_true rfl)
  rw [lg_entry_eq]
  generalize (lg_sl ([.ref (ad 0), .int k, .int (nI r)]) ++ List.replicate (4 - (lg_sl ([.ref (ad 0), .int k, .int (nI r)])).length) Slot.unset).toArray = ls at hl ⊢
  have hl : lv_has ls 4 [(0, .ref (ad 0)), (1, .int k), (2, .int (nI r))] := hl
  refine lv_iload_n hx hb d_B_enter_0 rfl (lv_at hl 2 rfl) ?_
  refine lv_if_lt (tgt := 11) hx hb d_B_enter_1 (by decide) (fun c1 => ?_) (fun c1 => ?_)
  · exact absurd c1 (nI_pos (by omega))
  · refine lv_iload_n hx hb d_B_enter_4 rfl (lv_at hl 2 rfl) ?_
    refine lv_sipush (v := nI 1000) hx hb d_B_enter_5 (by decide) ?_
    refine lv_icmp_le (tgt := 21) hx hb d_B_enter_8 (by decide) (fun c2 => ?_) (fun c2 => ?_)
    · replace c2 := (nI_leI (by omega) (by omega)).mp c2
      refine lv_aload_n hx hb d_B_enter_21 rfl (lv_at hl 0 rfl) ?_
      refine va_get (D := (dC, dI)) (ci := 0) (v := .int (nI n)) (C := "ClearingBooks") (T := T_B) (N := 12) hx hb hts wi_B hown hK hP 0 rfl rfl 0 (by decide) (hts _ kw_17) (fun _ h9 => h9) rfl d_B_enter_22 ?_
      refine lv_bipush (v := nI 15) hx hb d_B_enter_25 (by decide) ?_
      refine lv_icmp_lt (tgt := 40) hx hb d_B_enter_27 (by decide) (fun c3 => ?_) (fun c3 => ?_)
      · replace c3 := (nI_ltI (by omega) (by omega)).mp c3
        exfalso; omega
      · replace c3 := mt (nI_ltI (by omega) (by omega)).mpr c3
        obtain ⟨sa, hsa⟩ := hB.2.1 _ (List.mem_of_getElem? (l := cb_ks) (i := 1) rfl)
        exact xt_throw (names := ["java/lang/RuntimeException", "java/lang/Exception"]) hx hb hl0 hown (by decide) (by decide) (hts _ kw_171) (hts _ kw_7) hsa (xc_atoms hB hts at_ise) (by rw [hml]; exact hl.1) (Nat.le_refl _) d_B_enter_30 d_B_enter_33 d_B_enter_34 d_B_enter_36 d_B_enter_39 (hout _) (Nat.le_of_ble_eq_true rfl) (Nat.le_of_ble_eq_true rfl) (Nat.le_of_ble_eq_true rfl) (Nat.le_of_ble_eq_true rfl) hlocks (Nat.le_of_ble_eq_true rfl) (Nat.le_of_ble_eq_true rfl)
    · replace c2 := mt (nI_leI (by omega) (by omega)).mpr c2
      exact absurd hr0 c2
set_option maxHeartbeats 4000000 in
set_option maxRecDepth 100000 in
theorem c_acquirer_y (l : Launch) (dC : Nat → ClassId) (dI : Nat → Nat → Nat) (ad : Nat → Nat) (cI cJ : ClassId) (n tc : Nat) (ki ra : Nat → Int32) (po se : Nat → Int64) (bc : Nat → Int32) (bs op : Nat → Int64) (pr pe : Nat → Int32) (pm : Nat → Int64) (sz : Nat) (r : Nat) (hr0 : r ≤ 1000) (hn : n < 15) : Met l y_B_acquirer (.code y_B_acquirer b_B_acquirer 2 (some .int) :: wAll) ({ frames := 1, cells := 0, slots := 0, locals := 23 } : Room) (mu_P [.ref (ad 0), .int (nI r)] (dC, dI) vwCl [(cI, .int), (cJ, .long)] (cb_w ad cI cJ n tc ki ra po se bc bs op pr pe pm) sz) (va_Qi (fun (z : Int32) (_ : Unit) => z = nI n) (mu_B (dC, dI) vwCl [(cI, .int), (cJ, .long)] (va_A (cb_w ad cI cJ n tc ki ra po se bc bs op pr pe pm) sz) (cb_w ad cI cJ (n + 1) tc (upd ki n (nI 1)) (upd ra n (nI r)) po se bc bs op pr pe pm)) (va_A (cb_w ad cI cJ n tc ki ra po se bc bs op pr pe pm) sz)) 0 0 (va_A (cb_w ad cI cJ n tc ki ra po se bc bs op pr pe pm) sz) := by
  refine Met.ofW (cc := b_B_acquirer) (maxL := 2) (ret := (some .int)) (by decide) rfl ?_
  intro p e s m args below meth c s₁ B hml hv
  obtain ⟨rfl, hsz, hP, hK, hD0⟩ := hv
  have hx := B.exec
  have hb := B.bytes
  have hr := B.returns
  have hts0 := atoms_spec (ws := (.code y_B_acquirer b_B_acquirer 2 (some .int) :: wAll)) B.pre
  have hts := hts_all hts0
  have hown : s.vm.findClass "ClearingBooks" = some m.cls := findClass_of_methodNamed B.named
  have hlocks := B.notSynchronized
  subst hsz
  have hD := hD0.self (sz := s.heap.size)
  generalize hAe : va_A (cb_w ad cI cJ n tc ki ra po se bc bs op pr pe pm) s.heap.size = A at hD ⊢
  have hA : ∀ q : Nat, s.heap.size ≤ q → A q := fun q h => by rw [← hAe]; exact Or.inr h
  have hS : va_S A s.heap s.heap [] := va_S.rf
  have hl := lv_entry ([.ref (ad 0), .int (nI r)]) (n := 2) (Nat.le_of_ble_eq_true rfl)
  rw [lg_entry_eq]
  generalize (lg_sl ([.ref (ad 0), .int (nI r)]) ++ List.replicate (2 - (lg_sl ([.ref (ad 0), .int (nI r)])).length) Slot.unset).toArray = ls at hl ⊢
  have hl : lv_has ls 2 [(0, .ref (ad 0)), (1, .int (nI r))] := hl
  refine lv_aload_n hx hb d_B_acquirer_0 rfl (lv_at hl 0 rfl) ?_
  refine lv_iconst (v := nI 1) hx hb d_B_acquirer_1 (by decide) ?_
  refine lv_iload_n hx hb d_B_acquirer_2 rfl (lv_at hl 1 rfl) ?_
  refine mu_calli (va_runV (As := [.int (nI 1), .int (nI r)]) (rest := []) ⟨hx, hb, hml, hown, hts⟩ (c_enter_y l dC dI ad cI cJ n tc ki ra po se bc bs op pr pe pm _ (nI 1) r hr0 hn) (cwV 2 hts (wAll_v kw_100 kw_102 ks_5 kw_1 kw_103) rfl rfl rfl (by decide +kernel) ⟨Nat.le_of_ble_eq_true rfl, Nat.le_of_ble_eq_true rfl⟩) (mu_preV hK hP hD (ci := 0) (q0 := 0) rfl rfl) rfl rfl hl.1 rfl (lv_room (Nat.le_of_ble_eq_true rfl)) d_B_acquirer_3 ⟨Nat.le_of_ble_eq_true rfl, Nat.le_of_ble_eq_true rfl⟩) hD hS hA (fun r H locs hq hP hD hS => ?_)
  obtain rfl := hq
  have hP : va_P (dC, dI) vwCl (cb_w ad cI cJ (n + 1) tc (upd ki n (nI 1)) (upd ra n (nI r)) po se bc bs op pr pe pm) H := hP
  have hD : va_D A (cb_w ad cI cJ (n + 1) tc (upd ki n (nI 1)) (upd ra n (nI r)) po se bc bs op pr pe pm) := hD
  exact W.iret (v := nI n) hx hb hr (fun t ht hW => ⟨⟨nI n, (), rfl, rfl, by rw [ht]; exact hP, va_K.moved hW.alike hK, hD⟩, hS.F ht⟩) hS.2.2 d_B_acquirer_6
set_option maxHeartbeats 4000000 in
set_option maxRecDepth 100000 in
theorem c_acquirer_ta (l : Launch) (dC : Nat → ClassId) (dI : Nat → Nat → Nat) (ad : Nat → Nat) (cI cJ : ClassId) (n tc : Nat) (ki ra : Nat → Int32) (po se : Nat → Int64) (bc : Nat → Int32) (bs op : Nat → Int64) (pr pe : Nat → Int32) (pm : Nat → Int64) (x : Int32) (hno : ¬ (¬ x < 0 ∧ x ≤ nI 1000)) (hl0 : l.stackTraces = false) : xt_Met l y_B_acquirer (.code y_B_acquirer b_B_acquirer 2 (some .int) :: wAll) ({ frames := 7, cells := 1, slots := 6, locals := 113 } : Room) (ro_P [.ref (ad 0), .int x] (dC, dI) vwCl [(cI, .int), (cJ, .long)] (cb_w ad cI cJ n tc ki ra po se bc bs op pr pe pm) (xc_ok "ClearingBooks" cb_ks)) "java/lang/IllegalArgumentException" 1 6 := by
  refine xt_ofW (cc := b_B_acquirer) (maxL := 2) (ret := (some .int)) (by decide) rfl ?_
  intro p e s m args below meth c s₁ B hml hv
  obtain ⟨rfl, hP, hK, hB⟩ := hv
  have hx := B.exec
  have hb := B.bytes
  have hr := B.returns
  have hts0 := atoms_spec (ws := (.code y_B_acquirer b_B_acquirer 2 (some .int) :: wAll)) B.pre
  have hts := hts_all hts0
  have hown : s.vm.findClass "ClearingBooks" = some m.cls := findClass_of_methodNamed B.named
  have hlocks := B.notSynchronized
  have hnh := B.noHandlers (hts0 _ List.mem_cons_self)
  have hout : ∀ pc9 : Nat, ∀ x ∈ c.exceptionTable.toList, covers x pc9 = false := fun pc9 x hx9 => by rw [xt_nil hnh] at hx9; cases hx9
  have hl := lv_entry ([.ref (ad 0), .int x]) (n := 2) (Nat.le_of_ble_eq_true rfl)
  rw [lg_entry_eq]
  generalize (lg_sl ([.ref (ad 0), .int x]) ++ List.replicate (2 - (lg_sl ([.ref (ad 0), .int x])).length) Slot.unset).toArray = ls at hl ⊢
  have hl : lv_has ls 2 [(0, .ref (ad 0)), (1, .int x)] := hl
  refine lv_aload_n hx hb d_B_acquirer_0 rfl (lv_at hl 0 rfl) ?_
  refine lv_iconst (v := nI 1) hx hb d_B_acquirer_1 (by decide) ?_
  refine lv_iload_n hx hb d_B_acquirer_2 rfl (lv_at hl 1 rfl) ?_
  exact xt_pass (xt_runV (As := [.int (nI 1), .int x]) (rest := []) ⟨hx, hb, hml, hown, hts⟩ (c_enter_ta l dC dI ad cI cJ n tc ki ra po se bc bs op pr pe pm (nI 1) x hno hl0) (cwV 2 hts (wAll_v kw_100 kw_102 ks_5 kw_1 kw_103) rfl rfl rfl (by decide +kernel) ⟨Nat.le_of_ble_eq_true rfl, Nat.le_of_ble_eq_true rfl⟩) (ro_preV bl_xc hK hP (ci := 0) (q0 := 0) rfl rfl (fun U hU hW => xc_moved hB hW (fun q _ => by rw [hU]))) rfl rfl hl.1 rfl (lv_room (Nat.le_of_ble_eq_true rfl)) d_B_acquirer_3 ⟨Nat.le_of_ble_eq_true rfl, Nat.le_of_ble_eq_true rfl⟩) (hout _) hlocks (Nat.le_of_ble_eq_true rfl) (Nat.le_of_ble_eq_true rfl)
set_option maxHeartbeats 4000000 in
set_option maxRecDepth 100000 in
theorem c_acquirer_ts (l : Launch) (dC : Nat → ClassId) (dI : Nat → Nat → Nat) (ad : Nat → Nat) (cI cJ : ClassId) (n tc : Nat) (ki ra : Nat → Int32) (po se : Nat → Int64) (bc : Nat → Int32) (bs op : Nat → Int64) (pr pe : Nat → Int32) (pm : Nat → Int64) (r : Nat) (hr0 : r ≤ 1000) (hn : n = 15) (hl0 : l.stackTraces = false) : xt_Met l y_B_acquirer (.code y_B_acquirer b_B_acquirer 2 (some .int) :: wAll) ({ frames := 7, cells := 1, slots := 6, locals := 113 } : Room) (ro_P [.ref (ad 0), .int (nI r)] (dC, dI) vwCl [(cI, .int), (cJ, .long)] (cb_w ad cI cJ n tc ki ra po se bc bs op pr pe pm) (xc_ok "ClearingBooks" cb_ks)) "java/lang/IllegalStateException" 1 6 := by
  refine xt_ofW (cc := b_B_acquirer) (maxL := 2) (ret := (some .int)) (by decide) rfl ?_
  intro p e s m args below meth c s₁ B hml hv
  obtain ⟨rfl, hP, hK, hB⟩ := hv
  have hx := B.exec
  have hb := B.bytes
  have hr := B.returns
  have hts0 := atoms_spec (ws := (.code y_B_acquirer b_B_acquirer 2 (some .int) :: wAll)) B.pre
  have hts := hts_all hts0
  have hown : s.vm.findClass "ClearingBooks" = some m.cls := findClass_of_methodNamed B.named
  have hlocks := B.notSynchronized
  have hnh := B.noHandlers (hts0 _ List.mem_cons_self)
  have hout : ∀ pc9 : Nat, ∀ x ∈ c.exceptionTable.toList, covers x pc9 = false := fun pc9 x hx9 => by rw [xt_nil hnh] at hx9; cases hx9
  have hl := lv_entry ([.ref (ad 0), .int (nI r)]) (n := 2) (Nat.le_of_ble_eq_true rfl)
  rw [lg_entry_eq]
  generalize (lg_sl ([.ref (ad 0), .int (nI r)]) ++ List.replicate (2 - (lg_sl ([.ref (ad 0), .int (nI r)])).length) Slot.unset).toArray = ls at hl ⊢
  have hl : lv_has ls 2 [(0, .ref (ad 0)), (1, .int (nI r))] := hl
  refine lv_aload_n hx hb d_B_acquirer_0 rfl (lv_at hl 0 rfl) ?_
  refine lv_iconst (v := nI 1) hx hb d_B_acquirer_1 (by decide) ?_
  refine lv_iload_n hx hb d_B_acquirer_2 rfl (lv_at hl 1 rfl) ?_
  exact xt_pass (xt_runV (As := [.int (nI 1), .int (nI r)]) (rest := []) ⟨hx, hb, hml, hown, hts⟩ (c_enter_ts l dC dI ad cI cJ n tc ki ra po se bc bs op pr pe pm (nI 1) r hr0 hn hl0) (cwV 2 hts (wAll_v kw_100 kw_102 ks_5 kw_1 kw_103) rfl rfl rfl (by decide +kernel) ⟨Nat.le_of_ble_eq_true rfl, Nat.le_of_ble_eq_true rfl⟩) (ro_preV bl_xc hK hP (ci := 0) (q0 := 0) rfl rfl (fun U hU hW => xc_moved hB hW (fun q _ => by rw [hU]))) rfl rfl hl.1 rfl (lv_room (Nat.le_of_ble_eq_true rfl)) d_B_acquirer_3 ⟨Nat.le_of_ble_eq_true rfl, Nat.le_of_ble_eq_true rfl⟩) (hout _) hlocks (Nat.le_of_ble_eq_true rfl) (Nat.le_of_ble_eq_true rfl)
set_option maxHeartbeats 4000000 in
set_option maxRecDepth 100000 in
theorem c_issuer_y (l : Launch) (dC : Nat → ClassId) (dI : Nat → Nat → Nat) (ad : Nat → Nat) (cI cJ : ClassId) (n tc : Nat) (ki ra : Nat → Int32) (po se : Nat → Int64) (bc : Nat → Int32) (bs op : Nat → Int64) (pr pe : Nat → Int32) (pm : Nat → Int64) (sz : Nat) (r : Nat) (hr0 : r ≤ 1000) (hn : n < 15) : Met l y_B_issuer (.code y_B_issuer b_B_issuer 2 (some .int) :: wAll) ({ frames := 1, cells := 0, slots := 0, locals := 23 } : Room) (mu_P [.ref (ad 0), .int (nI r)] (dC, dI) vwCl [(cI, .int), (cJ, .long)] (cb_w ad cI cJ n tc ki ra po se bc bs op pr pe pm) sz) (va_Qi (fun (z : Int32) (_ : Unit) => z = nI n) (mu_B (dC, dI) vwCl [(cI, .int), (cJ, .long)] (va_A (cb_w ad cI cJ n tc ki ra po se bc bs op pr pe pm) sz) (cb_w ad cI cJ (n + 1) tc (upd ki n (nI 2)) (upd ra n (nI r)) po se bc bs op pr pe pm)) (va_A (cb_w ad cI cJ n tc ki ra po se bc bs op pr pe pm) sz)) 0 0 (va_A (cb_w ad cI cJ n tc ki ra po se bc bs op pr pe pm) sz) := by
  refine Met.ofW (cc := b_B_issuer) (maxL := 2) (ret := (some .int)) (by decide) rfl ?_
  intro p e s m args below meth c s₁ B hml hv
  obtain ⟨rfl, hsz, hP, hK, hD0⟩ := hv
  have hx := B.exec
  have hb := B.bytes
  have hr := B.returns
  have hts0 := atoms_spec (ws := (.code y_B_issuer b_B_issuer 2 (some .int) :: wAll)) B.pre
  have hts := hts_all hts0
  have hown : s.vm.findClass "ClearingBooks" = some m.cls := findClass_of_methodNamed B.named
  have hlocks := B.notSynchronized
  subst hsz
  have hD := hD0.self (sz := s.heap.size)
  generalize hAe : va_A (cb_w ad cI cJ n tc ki ra po se bc bs op pr pe pm) s.heap.size = A at hD ⊢
  have hA : ∀ q : Nat, s.heap.size ≤ q → A q := fun q h => by rw [← hAe]; exact Or.inr h
  have hS : va_S A s.heap s.heap [] := va_S.rf
  have hl := lv_entry ([.ref (ad 0), .int (nI r)]) (n := 2) (Nat.le_of_ble_eq_true rfl)
  rw [lg_entry_eq]
  generalize (lg_sl ([.ref (ad 0), .int (nI r)]) ++ List.replicate (2 - (lg_sl ([.ref (ad 0), .int (nI r)])).length) Slot.unset).toArray = ls at hl ⊢
  have hl : lv_has ls 2 [(0, .ref (ad 0)), (1, .int (nI r))] := hl
  refine lv_aload_n hx hb d_B_issuer_0 rfl (lv_at hl 0 rfl) ?_
  refine lv_iconst (v := nI 2) hx hb d_B_issuer_1 (by decide) ?_
  refine lv_iload_n hx hb d_B_issuer_2 rfl (lv_at hl 1 rfl) ?_
  refine mu_calli (va_runV (As := [.int (nI 2), .int (nI r)]) (rest := []) ⟨hx, hb, hml, hown, hts⟩ (c_enter_y l dC dI ad cI cJ n tc ki ra po se bc bs op pr pe pm _ (nI 2) r hr0 hn) (cwV 2 hts (wAll_v kw_100 kw_102 ks_5 kw_1 kw_103) rfl rfl rfl (by decide +kernel) ⟨Nat.le_of_ble_eq_true rfl, Nat.le_of_ble_eq_true rfl⟩) (mu_preV hK hP hD (ci := 0) (q0 := 0) rfl rfl) rfl rfl hl.1 rfl (lv_room (Nat.le_of_ble_eq_true rfl)) d_B_issuer_3 ⟨Nat.le_of_ble_eq_true rfl, Nat.le_of_ble_eq_true rfl⟩) hD hS hA (fun r H locs hq hP hD hS => ?_)
  obtain rfl := hq
  have hP : va_P (dC, dI) vwCl (cb_w ad cI cJ (n + 1) tc (upd ki n (nI 2)) (upd ra n (nI r)) po se bc bs op pr pe pm) H := hP
  have hD : va_D A (cb_w ad cI cJ (n + 1) tc (upd ki n (nI 2)) (upd ra n (nI r)) po se bc bs op pr pe pm) := hD
  exact W.iret (v := nI n) hx hb hr (fun t ht hW => ⟨⟨nI n, (), rfl, rfl, by rw [ht]; exact hP, va_K.moved hW.alike hK, hD⟩, hS.F ht⟩) hS.2.2 d_B_issuer_6
set_option maxHeartbeats 4000000 in
set_option maxRecDepth 100000 in
theorem c_issuer_ta (l : Launch) (dC : Nat → ClassId) (dI : Nat → Nat → Nat) (ad : Nat → Nat) (cI cJ : ClassId) (n tc : Nat) (ki ra : Nat → Int32) (po se : Nat → Int64) (bc : Nat → Int32) (bs op : Nat → Int64) (pr pe : Nat → Int32) (pm : Nat → Int64) (x : Int32) (hno : ¬ (¬ x < 0 ∧ x ≤ nI 1000)) (hl0 : l.stackTraces = false) : xt_Met l y_B_issuer (.code y_B_issuer b_B_issuer 2 (some .int) :: wAll) ({ frames := 7, cells := 1, slots := 6, locals := 113 } : Room) (ro_P [.ref (ad 0), .int x] (dC, dI) vwCl [(cI, .int), (cJ, .long)] (cb_w ad cI cJ n tc ki ra po se bc bs op pr pe pm) (xc_ok "ClearingBooks" cb_ks)) "java/lang/IllegalArgumentException" 1 6 := by
  refine xt_ofW (cc := b_B_issuer) (maxL := 2) (ret := (some .int)) (by decide) rfl ?_
  intro p e s m args below meth c s₁ B hml hv
  obtain ⟨rfl, hP, hK, hB⟩ := hv
  have hx := B.exec
  have hb := B.bytes
  have hr := B.returns
  have hts0 := atoms_spec (ws := (.code y_B_issuer b_B_issuer 2 (some .int) :: wAll)) B.pre
  have hts := hts_all hts0
  have hown : s.vm.findClass "ClearingBooks" = some m.cls := findClass_of_methodNamed B.named
  have hlocks := B.notSynchronized
  have hnh := B.noHandlers (hts0 _ List.mem_cons_self)
  have hout : ∀ pc9 : Nat, ∀ x ∈ c.exceptionTable.toList, covers x pc9 = false := fun pc9 x hx9 => by rw [xt_nil hnh] at hx9; cases hx9
  have hl := lv_entry ([.ref (ad 0), .int x]) (n := 2) (Nat.le_of_ble_eq_true rfl)
  rw [lg_entry_eq]
  generalize (lg_sl ([.ref (ad 0), .int x]) ++ List.replicate (2 - (lg_sl ([.ref (ad 0), .int x])).length) Slot.unset).toArray = ls at hl ⊢
  have hl : lv_has ls 2 [(0, .ref (ad 0)), (1, .int x)] := hl
  refine lv_aload_n hx hb d_B_issuer_0 rfl (lv_at hl 0 rfl) ?_
  refine lv_iconst (v := nI 2) hx hb d_B_issuer_1 (by decide) ?_
  refine lv_iload_n hx hb d_B_issuer_2 rfl (lv_at hl 1 rfl) ?_
  exact xt_pass (xt_runV (As := [.int (nI 2), .int x]) (rest := []) ⟨hx, hb, hml, hown, hts⟩ (c_enter_ta l dC dI ad cI cJ n tc ki ra po se bc bs op pr pe pm (nI 2) x hno hl0) (cwV 2 hts (wAll_v kw_100 kw_102 ks_5 kw_1 kw_103) rfl rfl rfl (by decide +kernel) ⟨Nat.le_of_ble_eq_true rfl, Nat.le_of_ble_eq_true rfl⟩) (ro_preV bl_xc hK hP (ci := 0) (q0 := 0) rfl rfl (fun U hU hW => xc_moved hB hW (fun q _ => by rw [hU]))) rfl rfl hl.1 rfl (lv_room (Nat.le_of_ble_eq_true rfl)) d_B_issuer_3 ⟨Nat.le_of_ble_eq_true rfl, Nat.le_of_ble_eq_true rfl⟩) (hout _) hlocks (Nat.le_of_ble_eq_true rfl) (Nat.le_of_ble_eq_true rfl)
set_option maxHeartbeats 4000000 in
set_option maxRecDepth 100000 in
theorem c_issuer_ts (l : Launch) (dC : Nat → ClassId) (dI : Nat → Nat → Nat) (ad : Nat → Nat) (cI cJ : ClassId) (n tc : Nat) (ki ra : Nat → Int32) (po se : Nat → Int64) (bc : Nat → Int32) (bs op : Nat → Int64) (pr pe : Nat → Int32) (pm : Nat → Int64) (r : Nat) (hr0 : r ≤ 1000) (hn : n = 15) (hl0 : l.stackTraces = false) : xt_Met l y_B_issuer (.code y_B_issuer b_B_issuer 2 (some .int) :: wAll) ({ frames := 7, cells := 1, slots := 6, locals := 113 } : Room) (ro_P [.ref (ad 0), .int (nI r)] (dC, dI) vwCl [(cI, .int), (cJ, .long)] (cb_w ad cI cJ n tc ki ra po se bc bs op pr pe pm) (xc_ok "ClearingBooks" cb_ks)) "java/lang/IllegalStateException" 1 6 := by
  refine xt_ofW (cc := b_B_issuer) (maxL := 2) (ret := (some .int)) (by decide) rfl ?_
  intro p e s m args below meth c s₁ B hml hv
  obtain ⟨rfl, hP, hK, hB⟩ := hv
  have hx := B.exec
  have hb := B.bytes
  have hr := B.returns
  have hts0 := atoms_spec (ws := (.code y_B_issuer b_B_issuer 2 (some .int) :: wAll)) B.pre
  have hts := hts_all hts0
  have hown : s.vm.findClass "ClearingBooks" = some m.cls := findClass_of_methodNamed B.named
  have hlocks := B.notSynchronized
  have hnh := B.noHandlers (hts0 _ List.mem_cons_self)
  have hout : ∀ pc9 : Nat, ∀ x ∈ c.exceptionTable.toList, covers x pc9 = false := fun pc9 x hx9 => by rw [xt_nil hnh] at hx9; cases hx9
  have hl := lv_entry ([.ref (ad 0), .int (nI r)]) (n := 2) (Nat.le_of_ble_eq_true rfl)
  rw [lg_entry_eq]
  generalize (lg_sl ([.ref (ad 0), .int (nI r)]) ++ List.replicate (2 - (lg_sl ([.ref (ad 0), .int (nI r)])).length) Slot.unset).toArray = ls at hl ⊢
  have hl : lv_has ls 2 [(0, .ref (ad 0)), (1, .int (nI r))] := hl
  refine lv_aload_n hx hb d_B_issuer_0 rfl (lv_at hl 0 rfl) ?_
  refine lv_iconst (v := nI 2) hx hb d_B_issuer_1 (by decide) ?_
  refine lv_iload_n hx hb d_B_issuer_2 rfl (lv_at hl 1 rfl) ?_
  exact xt_pass (xt_runV (As := [.int (nI 2), .int (nI r)]) (rest := []) ⟨hx, hb, hml, hown, hts⟩ (c_enter_ts l dC dI ad cI cJ n tc ki ra po se bc bs op pr pe pm (nI 2) r hr0 hn hl0) (cwV 2 hts (wAll_v kw_100 kw_102 ks_5 kw_1 kw_103) rfl rfl rfl (by decide +kernel) ⟨Nat.le_of_ble_eq_true rfl, Nat.le_of_ble_eq_true rfl⟩) (ro_preV bl_xc hK hP (ci := 0) (q0 := 0) rfl rfl (fun U hU hW => xc_moved hB hW (fun q _ => by rw [hU]))) rfl rfl hl.1 rfl (lv_room (Nat.le_of_ble_eq_true rfl)) d_B_issuer_3 ⟨Nat.le_of_ble_eq_true rfl, Nat.le_of_ble_eq_true rfl⟩) (hout _) hlocks (Nat.le_of_ble_eq_true rfl) (Nat.le_of_ble_eq_true rfl)
set_option maxHeartbeats 4000000 in
set_option maxRecDepth 100000 in
theorem c_clear_y (l : Launch) (dC : Nat → ClassId) (dI : Nat → Nat → Nat) (ad : Nat → Nat) (cI cJ : ClassId) (n tc : Nat) (ki ra : Nat → Int32) (po se : Nat → Int64) (bc : Nat → Int32) (bs op : Nat → Int64) (pr pe : Nat → Int32) (pm : Nat → Int64) (sz : Nat) (i j : Nat) (x : Int64) (hji : i < n) (hjj : j < n) (hn : n ≤ 15) (hki : ki i = nI 1) (hkj : ki j = nI 2) (h1 : ¬ x < 1) (h2 : ¬ 1000000000000 < x) : Met l y_B_clear (.code y_B_clear b_B_clear 9 (some .long) :: wAll) ({ frames := 2, cells := 0, slots := 0, locals := 43 } : Room) (mu_P [.ref (ad 0), .int (nI i), .int (nI j), .long x] (dC, dI) vwCl [(cI, .int), (cJ, .long)] (cb_w ad cI cJ n tc ki ra po se bc bs op pr pe pm) sz) (va_Ql (fun (z : Int64) (_ : Unit) => z = cgv x (ra j + ra i)) (mu_B (dC, dI) vwCl [(cI, .int), (cJ, .long)] (va_A (cb_w ad cI cJ n tc ki ra po se bc bs op pr pe pm) sz) (cb_w ad cI cJ n tc ki ra (po_cl po i j x (cgv x (ra j + ra i)) (dnv x (ra j))) se (upd bc i (bc i + nI 1)) (vp_updL bs i (bs i + x)) op pr pe pm)) (va_A (cb_w ad cI cJ n tc ki ra po se bc bs op pr pe pm) sz)) 0 0 (va_A (cb_w ad cI cJ n tc ki ra po se bc bs op pr pe pm) sz) := by
  refine Met.ofW (cc := b_B_clear) (maxL := 9) (ret := (some .long)) (by decide) rfl ?_
  intro p e s m args below meth c s₁ B hml hv
  obtain ⟨rfl, hsz, hP, hK, hD0⟩ := hv
  have hx := B.exec
  have hb := B.bytes
  have hr := B.returns
  have hts0 := atoms_spec (ws := (.code y_B_clear b_B_clear 9 (some .long) :: wAll)) B.pre
  have hts := hts_all hts0
  have hown : s.vm.findClass "ClearingBooks" = some m.cls := findClass_of_methodNamed B.named
  have hlocks := B.notSynchronized
  subst hsz
  have hD := hD0.self (sz := s.heap.size)
  generalize hAe : va_A (cb_w ad cI cJ n tc ki ra po se bc bs op pr pe pm) s.heap.size = A at hD ⊢
  have hA : ∀ q : Nat, s.heap.size ≤ q → A q := fun q h => by rw [← hAe]; exact Or.inr h
  have hS : va_S A s.heap s.heap [] := va_S.rf
  have hl := lv_entry ([.ref (ad 0), .int (nI i), .int (nI j), .long x]) (n := 9) (Nat.le_of_ble_eq_true rfl)
  rw [lg_entry_eq]
  generalize (lg_sl ([.ref (ad 0), .int (nI i), .int (nI j), .long x]) ++ List.replicate (9 - (lg_sl ([.ref (ad 0), .int (nI i), .int (nI j), .long x])).length) Slot.unset).toArray = ls at hl ⊢
  have hl : lv_has ls 9 [(0, .ref (ad 0)), (1, .int (nI i)), (2, .int (nI j)), (3, .long x)] := hl
  refine lv_aload_n hx hb d_B_clear_0 rfl (lv_at hl 0 rfl) ?_
  refine lv_iload_n hx hb d_B_clear_1 rfl (lv_at hl 1 rfl) ?_
  refine lv_iconst (v := nI 1) hx hb d_B_clear_2 (by decide) ?_
  refine ro_call (va_runV (As := [.int (nI i), .int (nI 1)]) (rest := []) ⟨hx, hb, hml, hown, hts⟩ (c_requireKind_y l dC dI ad cI cJ n tc ki ra po se bc bs op pr pe pm i (nI 1) hji hn hki) (cwV 2 hts (wAll_v kw_201 kw_203 ks_7 kw_1 kw_204) rfl rfl rfl (by decide +kernel) ⟨Nat.le_of_ble_eq_true rfl, Nat.le_of_ble_eq_true rfl⟩) (ro_preV bl_tt hK hP (ci := 0) (q0 := 0) rfl rfl (fun _ _ _ => trivial)) rfl rfl hl.1 rfl (lv_room (Nat.le_of_ble_eq_true rfl)) d_B_clear_3 ⟨Nat.le_of_ble_eq_true rfl, Nat.le_of_ble_eq_true rfl⟩) ?_
  refine W.eq (g2 := F0 m 6 ls []) rfl ?_
  refine lv_aload_n hx hb d_B_clear_6 rfl (lv_at hl 0 rfl) ?_
  refine lv_iload_n hx hb d_B_clear_7 rfl (lv_at hl 2 rfl) ?_
  refine lv_iconst (v := nI 2) hx hb d_B_clear_8 (by decide) ?_
  refine ro_call (va_runV (As := [.int (nI j), .int (nI 2)]) (rest := []) ⟨hx, hb, hml, hown, hts⟩ (c_requireKind_y l dC dI ad cI cJ n tc ki ra po se bc bs op pr pe pm j (nI 2) hjj hn hkj) (cwV 2 hts (wAll_v kw_201 kw_203 ks_7 kw_1 kw_204) rfl rfl rfl (by decide +kernel) ⟨Nat.le_of_ble_eq_true rfl, Nat.le_of_ble_eq_true rfl⟩) (ro_preV bl_tt hK hP (ci := 0) (q0 := 0) rfl rfl (fun _ _ _ => trivial)) rfl rfl hl.1 rfl (lv_room (Nat.le_of_ble_eq_true rfl)) d_B_clear_9 ⟨Nat.le_of_ble_eq_true rfl, Nat.le_of_ble_eq_true rfl⟩) ?_
  refine W.eq (g2 := F0 m 12 ls []) rfl ?_
  refine lv_lload_n hx hb d_B_clear_12 rfl (lv_at hl 3 rfl) ?_
  refine lv_lconst (v := 1) hx hb d_B_clear_13 (by decide) ?_
  refine ro_call (va_runS (As := [.long x, .long 1]) (rest := []) ⟨hx, hb, hml, hown, hts⟩ (c_requireAmount_y l dC dI ad cI cJ n tc ki ra po se bc bs op pr pe pm x 1 h1 h2) (cwS 2 hts (wAll_s kw_210 kw_211 kw_1 kw_212) rfl rfl rfl (by decide +kernel) ⟨Nat.le_of_ble_eq_true rfl, Nat.le_of_ble_eq_true rfl⟩) (ro_preS bl_tt hK hP (fun _ _ _ => trivial)) rfl rfl hl.1 rfl (lv_room (Nat.le_of_ble_eq_true rfl)) d_B_clear_14 ⟨Nat.le_of_ble_eq_true rfl, Nat.le_of_ble_eq_true rfl⟩) ?_
  refine W.eq (g2 := F0 m 17 ls []) rfl ?_
  refine lv_lload_n hx hb d_B_clear_17 rfl (lv_at hl 3 rfl) ?_
  refine lv_aload_n hx hb d_B_clear_18 rfl (lv_at hl 0 rfl) ?_
  refine va_get (D := (dC, dI)) (ci := 0) (v := .ref (ad 2)) (C := "ClearingBooks") (T := T_B) (N := 12) hx hb hts wi_B hown hK hP 0 rfl rfl 2 (by decide) (hts _ kw_19) (fun _ h9 => h9) rfl d_B_clear_19 ?_
  refine lv_iload_n hx hb d_B_clear_22 rfl (lv_at hl 2 rfl) ?_
  refine xa_iaload (f := ra) hx hb hK hP 2 0 rfl rfl (j := j) (by omega) (by decide) d_B_clear_23 ?_
  refine lv_aload_n hx hb d_B_clear_24 rfl (lv_at hl 0 rfl) ?_
  refine va_get (D := (dC, dI)) (ci := 0) (v := .ref (ad 2)) (C := "ClearingBooks") (T := T_B) (N := 12) hx hb hts wi_B hown hK hP 0 rfl rfl 2 (by decide) (hts _ kw_19) (fun _ h9 => h9) rfl d_B_clear_25 ?_
  refine lv_iload_n hx hb d_B_clear_28 rfl (lv_at hl 1 rfl) ?_
  refine xa_iaload (f := ra) hx hb hK hP 2 0 rfl rfl (j := i) (by omega) (by decide) d_B_clear_29 ?_
  refine lv_iadd hx hb d_B_clear_30 ?_
  refine ro_call (va_runS (As := [.long x, .int ((ra j) + (ra i))]) (rest := []) ⟨hx, hb, hml, hown, hts⟩ (c_partRoundedUp l dC dI ad cI cJ n tc ki ra po se bc bs op pr pe pm x ((ra j) + (ra i))) (cwS 2 hts (wAll_s kw_215 kw_216 kw_1 kw_217) rfl rfl rfl (by decide +kernel) ⟨Nat.le_of_ble_eq_true rfl, Nat.le_of_ble_eq_true rfl⟩) (ro_preS bl_tt hK hP (fun _ _ _ => trivial)) rfl rfl hl.1 rfl (lv_room (Nat.le_of_ble_eq_true rfl)) d_B_clear_31 ⟨Nat.le_of_ble_eq_true rfl, Nat.le_of_ble_eq_true rfl⟩) ?_
  refine W.eq (g2 := F0 m 34 ls [.long (cgv x ((ra j) + (ra i)))]) rfl ?_
  refine lv_lstore (lv' := [(5, .long (cgv x ((ra j) + (ra i)))), (0, .ref (ad 0)), (1, .int (nI i)), (2, .int (nI j)), (3, .long x)]) hx hb d_B_clear_34 hl (by decide) rfl (fun ls hl => ?_)
  refine lv_lload_n hx hb d_B_clear_36 rfl (lv_at hl 4 rfl) ?_
  refine lv_aload_n hx hb d_B_clear_37 rfl (lv_at hl 1 rfl) ?_
  refine va_get (D := (dC, dI)) (ci := 0) (v := .ref (ad 2)) (C := "ClearingBooks") (T := T_B) (N := 12) hx hb hts wi_B hown hK hP 0 rfl rfl 2 (by decide) (hts _ kw_19) (fun _ h9 => h9) rfl d_B_clear_38 ?_
  refine lv_iload_n hx hb d_B_clear_41 rfl (lv_at hl 3 rfl) ?_
  refine xa_iaload (f := ra) hx hb hK hP 2 0 rfl rfl (j := j) (by omega) (by decide) d_B_clear_42 ?_
  refine ro_call (va_runS (As := [.long x, .int (ra j)]) (rest := []) ⟨hx, hb, hml, hown, hts⟩ (c_partRoundedDown l dC dI ad cI cJ n tc ki ra po se bc bs op pr pe pm x (ra j)) (cwS 2 hts (wAll_s kw_219 kw_220 kw_1 kw_221) rfl rfl rfl (by decide +kernel) ⟨Nat.le_of_ble_eq_true rfl, Nat.le_of_ble_eq_true rfl⟩) (ro_preS bl_tt hK hP (fun _ _ _ => trivial)) rfl rfl hl.1 rfl (lv_room (Nat.le_of_ble_eq_true rfl)) d_B_clear_43 ⟨Nat.le_of_ble_eq_true rfl, Nat.le_of_ble_eq_true rfl⟩) ?_
  refine W.eq (g2 := F0 m 46 ls [.long (dnv x (ra j))]) rfl ?_
  refine lv_lstore (lv' := [(7, .long (dnv x (ra j))), (5, .long (cgv x ((ra j) + (ra i)))), (0, .ref (ad 0)), (1, .int (nI i)), (2, .int (nI j)), (3, .long x)]) hx hb d_B_clear_46 hl (by decide) rfl (fun ls hl => ?_)
  refine lv_aload_n hx hb d_B_clear_48 rfl (lv_at hl 2 rfl) ?_
  refine va_get (D := (dC, dI)) (ci := 0) (v := .ref (ad 3)) (C := "ClearingBooks") (T := T_B) (N := 12) hx hb hts wi_B hown hK hP 0 rfl rfl 3 (by decide) (hts _ kw_20) (fun _ h9 => h9) rfl d_B_clear_49 ?_
  refine lv_iload_n hx hb d_B_clear_52 rfl (lv_at hl 3 rfl) ?_
  refine lv_dup2_11 hx hb d_B_clear_53 rfl rfl ?_
  refine xa_laload (f := po) hx hb hK hP 3 1 rfl rfl (j := i) (by omega) (by decide) d_B_clear_54 ?_
  refine lv_lload_n hx hb d_B_clear_55 rfl (lv_at hl 5 rfl) ?_
  refine lv_lload hx hb d_B_clear_56 (lv_at hl 1 rfl) ?_
  refine lv_lsub hx hb d_B_clear_58 ?_
  refine lv_ladd hx hb d_B_clear_59 ?_
  refine xa_lastore (f := po) (x := (po i) + (x - (cgv x ((ra j) + (ra i))))) hx hb hK hP hD hS 3 1 rfl rfl (j := i) (by omega) (by decide) d_B_clear_60 (fun H locs hP hD hS => ?_)
  have hP : va_P (dC, dI) vwCl (cb_w ad cI cJ n tc ki ra (vp_updL po i ((po i) + (x - (cgv x ((ra j) + (ra i)))))) se bc bs op pr pe pm) H := hP
  have hD : va_D A (cb_w ad cI cJ n tc ki ra (vp_updL po i ((po i) + (x - (cgv x ((ra j) + (ra i)))))) se bc bs op pr pe pm) := hD
  refine lv_aload_n hx hb d_B_clear_61 rfl (lv_at hl 2 rfl) ?_
  refine va_get (D := (dC, dI)) (ci := 0) (v := .ref (ad 3)) (C := "ClearingBooks") (T := T_B) (N := 12) hx hb hts wi_B hown hK hP 0 rfl rfl 3 (by decide) (hts _ kw_20) (fun _ h9 => h9) rfl d_B_clear_62 ?_
  refine lv_iload_n hx hb d_B_clear_65 rfl (lv_at hl 4 rfl) ?_
  refine lv_dup2_11 hx hb d_B_clear_66 rfl rfl ?_
  refine xa_laload (f := vp_updL po i ((po i) + (x - (cgv x ((ra j) + (ra i)))))) hx hb hK hP 3 1 rfl rfl (j := j) (by omega) (by decide) d_B_clear_67 ?_
  refine lv_lload hx hb d_B_clear_68 (lv_at hl 0 rfl) ?_
  refine lv_lload_n hx hb d_B_clear_70 rfl (lv_at hl 5 rfl) ?_
  refine lv_lsub hx hb d_B_clear_71 ?_
  refine lv_ladd hx hb d_B_clear_72 ?_
  refine xa_lastore (f := vp_updL po i ((po i) + (x - (cgv x ((ra j) + (ra i)))))) (x := ((vp_updL po i ((po i) + (x - (cgv x ((ra j) + (ra i)))))) j) + ((dnv x (ra j)) - x)) hx hb hK hP hD hS 3 1 rfl rfl (j := j) (by omega) (by decide) d_B_clear_73 (fun H locs hP hD hS => ?_)
  have hP : va_P (dC, dI) vwCl (cb_w ad cI cJ n tc ki ra (vp_updL (vp_updL po i ((po i) + (x - (cgv x ((ra j) + (ra i)))))) j (((vp_updL po i ((po i) + (x - (cgv x ((ra j) + (ra i)))))) j) + ((dnv x (ra j)) - x))) se bc bs op pr pe pm) H := hP
  have hD : va_D A (cb_w ad cI cJ n tc ki ra (vp_updL (vp_updL po i ((po i) + (x - (cgv x ((ra j) + (ra i)))))) j (((vp_updL po i ((po i) + (x - (cgv x ((ra j) + (ra i)))))) j) + ((dnv x (ra j)) - x))) se bc bs op pr pe pm) := hD
  refine lv_aload_n hx hb d_B_clear_74 rfl (lv_at hl 2 rfl) ?_
  refine va_get (D := (dC, dI)) (ci := 0) (v := .ref (ad 3)) (C := "ClearingBooks") (T := T_B) (N := 12) hx hb hts wi_B hown hK hP 0 rfl rfl 3 (by decide) (hts _ kw_20) (fun _ h9 => h9) rfl d_B_clear_75 ?_
  refine lv_iconst (v := nI 0) hx hb d_B_clear_78 (by decide) ?_
  refine lv_dup2_11 hx hb d_B_clear_79 rfl rfl ?_
  refine xa_laload (f := vp_updL (vp_updL po i ((po i) + (x - (cgv x ((ra j) + (ra i)))))) j (((vp_updL po i ((po i) + (x - (cgv x ((ra j) + (ra i)))))) j) + ((dnv x (ra j)) - x))) hx hb hK hP 3 1 rfl rfl (j := 0) (by omega) (by decide) d_B_clear_80 ?_
  refine lv_lload hx hb d_B_clear_81 (lv_at hl 1 rfl) ?_
  refine lv_lload hx hb d_B_clear_83 (lv_at hl 0 rfl) ?_
  refine lv_lsub hx hb d_B_clear_85 ?_
  refine lv_ladd hx hb d_B_clear_86 ?_
  refine xa_lastore (f := vp_updL (vp_updL po i ((po i) + (x - (cgv x ((ra j) + (ra i)))))) j (((vp_updL po i ((po i) + (x - (cgv x ((ra j) + (ra i)))))) j) + ((dnv x (ra j)) - x))) (x := ((vp_updL (vp_updL po i ((po i) + (x - (cgv x ((ra j) + (ra i)))))) j (((vp_updL po i ((po i) + (x - (cgv x ((ra j) + (ra i)))))) j) + ((dnv x (ra j)) - x))) 0) + ((cgv x ((ra j) + (ra i))) - (dnv x (ra j)))) hx hb hK hP hD hS 3 1 rfl rfl (j := 0) (by omega) (by decide) d_B_clear_87 (fun H locs hP hD hS => ?_)
  have hP : va_P (dC, dI) vwCl (cb_w ad cI cJ n tc ki ra (vp_updL (vp_updL (vp_updL po i ((po i) + (x - (cgv x ((ra j) + (ra i)))))) j (((vp_updL po i ((po i) + (x - (cgv x ((ra j) + (ra i)))))) j) + ((dnv x (ra j)) - x))) 0 (((vp_updL (vp_updL po i ((po i) + (x - (cgv x ((ra j) + (ra i)))))) j (((vp_updL po i ((po i) + (x - (cgv x ((ra j) + (ra i)))))) j) + ((dnv x (ra j)) - x))) 0) + ((cgv x ((ra j) + (ra i))) - (dnv x (ra j))))) se bc bs op pr pe pm) H := hP
  have hD : va_D A (cb_w ad cI cJ n tc ki ra (vp_updL (vp_updL (vp_updL po i ((po i) + (x - (cgv x ((ra j) + (ra i)))))) j (((vp_updL po i ((po i) + (x - (cgv x ((ra j) + (ra i)))))) j) + ((dnv x (ra j)) - x))) 0 (((vp_updL (vp_updL po i ((po i) + (x - (cgv x ((ra j) + (ra i)))))) j (((vp_updL po i ((po i) + (x - (cgv x ((ra j) + (ra i)))))) j) + ((dnv x (ra j)) - x))) 0) + ((cgv x ((ra j) + (ra i))) - (dnv x (ra j))))) se bc bs op pr pe pm) := hD
  refine lv_aload_n hx hb d_B_clear_88 rfl (lv_at hl 2 rfl) ?_
  refine va_get (D := (dC, dI)) (ci := 0) (v := .ref (ad 5)) (C := "ClearingBooks") (T := T_B) (N := 12) hx hb hts wi_B hown hK hP 0 rfl rfl 5 (by decide) (hts _ kw_22) (fun _ h9 => h9) rfl d_B_clear_89 ?_
  refine lv_iload_n hx hb d_B_clear_92 rfl (lv_at hl 3 rfl) ?_
  refine lv_dup2_11 hx hb d_B_clear_93 rfl rfl ?_
  refine xa_iaload (f := bc) hx hb hK hP 5 0 rfl rfl (j := i) (by omega) (by decide) d_B_clear_94 ?_
  refine lv_iconst (v := nI 1) hx hb d_B_clear_95 (by decide) ?_
  refine lv_iadd hx hb d_B_clear_96 ?_
  refine xa_iastore (f := bc) (x := (bc i) + (nI 1)) hx hb hK hP hD hS 5 0 rfl rfl (j := i) (by omega) (by decide) d_B_clear_97 (fun H locs hP hD hS => ?_)
  have hP : va_P (dC, dI) vwCl (cb_w ad cI cJ n tc ki ra (vp_updL (vp_updL (vp_updL po i ((po i) + (x - (cgv x ((ra j) + (ra i)))))) j (((vp_updL po i ((po i) + (x - (cgv x ((ra j) + (ra i)))))) j) + ((dnv x (ra j)) - x))) 0 (((vp_updL (vp_updL po i ((po i) + (x - (cgv x ((ra j) + (ra i)))))) j (((vp_updL po i ((po i) + (x - (cgv x ((ra j) + (ra i)))))) j) + ((dnv x (ra j)) - x))) 0) + ((cgv x ((ra j) + (ra i))) - (dnv x (ra j))))) se (upd bc i ((bc i) + (nI 1))) bs op pr pe pm) H := hP
  have hD : va_D A (cb_w ad cI cJ n tc ki ra (vp_updL (vp_updL (vp_updL po i ((po i) + (x - (cgv x ((ra j) + (ra i)))))) j (((vp_updL po i ((po i) + (x - (cgv x ((ra j) + (ra i)))))) j) + ((dnv x (ra j)) - x))) 0 (((vp_updL (vp_updL po i ((po i) + (x - (cgv x ((ra j) + (ra i)))))) j (((vp_updL po i ((po i) + (x - (cgv x ((ra j) + (ra i)))))) j) + ((dnv x (ra j)) - x))) 0) + ((cgv x ((ra j) + (ra i))) - (dnv x (ra j))))) se (upd bc i ((bc i) + (nI 1))) bs op pr pe pm) := hD
  refine lv_aload_n hx hb d_B_clear_98 rfl (lv_at hl 2 rfl) ?_
  refine va_get (D := (dC, dI)) (ci := 0) (v := .ref (ad 6)) (C := "ClearingBooks") (T := T_B) (N := 12) hx hb hts wi_B hown hK hP 0 rfl rfl 6 (by decide) (hts _ kw_23) (fun _ h9 => h9) rfl d_B_clear_99 ?_
  refine lv_iload_n hx hb d_B_clear_102 rfl (lv_at hl 3 rfl) ?_
  refine lv_dup2_11 hx hb d_B_clear_103 rfl rfl ?_
  refine xa_laload (f := bs) hx hb hK hP 6 1 rfl rfl (j := i) (by omega) (by decide) d_B_clear_104 ?_
  refine lv_lload_n hx hb d_B_clear_105 rfl (lv_at hl 5 rfl) ?_
  refine lv_ladd hx hb d_B_clear_106 ?_
  refine xa_lastore (f := bs) (x := (bs i) + x) hx hb hK hP hD hS 6 1 rfl rfl (j := i) (by omega) (by decide) d_B_clear_107 (fun H locs hP hD hS => ?_)
  have hP : va_P (dC, dI) vwCl (cb_w ad cI cJ n tc ki ra (vp_updL (vp_updL (vp_updL po i ((po i) + (x - (cgv x ((ra j) + (ra i)))))) j (((vp_updL po i ((po i) + (x - (cgv x ((ra j) + (ra i)))))) j) + ((dnv x (ra j)) - x))) 0 (((vp_updL (vp_updL po i ((po i) + (x - (cgv x ((ra j) + (ra i)))))) j (((vp_updL po i ((po i) + (x - (cgv x ((ra j) + (ra i)))))) j) + ((dnv x (ra j)) - x))) 0) + ((cgv x ((ra j) + (ra i))) - (dnv x (ra j))))) se (upd bc i ((bc i) + (nI 1))) (vp_updL bs i ((bs i) + x)) op pr pe pm) H := hP
  have hD : va_D A (cb_w ad cI cJ n tc ki ra (vp_updL (vp_updL (vp_updL po i ((po i) + (x - (cgv x ((ra j) + (ra i)))))) j (((vp_updL po i ((po i) + (x - (cgv x ((ra j) + (ra i)))))) j) + ((dnv x (ra j)) - x))) 0 (((vp_updL (vp_updL po i ((po i) + (x - (cgv x ((ra j) + (ra i)))))) j (((vp_updL po i ((po i) + (x - (cgv x ((ra j) + (ra i)))))) j) + ((dnv x (ra j)) - x))) 0) + ((cgv x ((ra j) + (ra i))) - (dnv x (ra j))))) se (upd bc i ((bc i) + (nI 1))) (vp_updL bs i ((bs i) + x)) op pr pe pm) := hD
  refine lv_lload hx hb d_B_clear_108 (lv_at hl 1 rfl) ?_
  exact W.lret (v := cgv x ((ra j) + (ra i))) hx hb hr (fun t ht hW => ⟨⟨cgv x ((ra j) + (ra i)), (), rfl, rfl, by rw [ht]; exact hP, va_K.moved hW.alike hK, hD⟩, hS.F ht⟩) hS.2.2 d_B_clear_110
set_option maxHeartbeats 4000000 in
set_option maxRecDepth 100000 in
theorem c_clear_ta (l : Launch) (dC : Nat → ClassId) (dI : Nat → Nat → Nat) (ad : Nat → Nat) (cI cJ : ClassId) (n tc : Nat) (ki ra : Nat → Int32) (po se : Nat → Int64) (bc : Nat → Int32) (bs op : Nat → Int64) (pr pe : Nat → Int32) (pm : Nat → Int64) (a b : Int32) (x : Int64) (hn : n ≤ 15) (hno : ¬ is_k n ki a (nI 1)) (hl0 : l.stackTraces = false) : xt_Met l y_B_clear (.code y_B_clear b_B_clear 9 (some .long) :: wAll) ({ frames := 7, cells := 1, slots := 6, locals := 113 } : Room) (ro_P [.ref (ad 0), .int a, .int b, .long x] (dC, dI) vwCl [(cI, .int), (cJ, .long)] (cb_w ad cI cJ n tc ki ra po se bc bs op pr pe pm) (xc_ok "ClearingBooks" cb_ks)) "java/lang/IllegalArgumentException" 1 6 := by
  refine xt_ofW (cc := b_B_clear) (maxL := 9) (ret := (some .long)) (by decide) rfl ?_
  intro p e s m args below meth c s₁ B hml hv
  obtain ⟨rfl, hP, hK, hB⟩ := hv
  have hx := B.exec
  have hb := B.bytes
  have hr := B.returns
  have hts0 := atoms_spec (ws := (.code y_B_clear b_B_clear 9 (some .long) :: wAll)) B.pre
  have hts := hts_all hts0
  have hown : s.vm.findClass "ClearingBooks" = some m.cls := findClass_of_methodNamed B.named
  have hlocks := B.notSynchronized
  have hnh := B.noHandlers (hts0 _ List.mem_cons_self)
  have hout : ∀ pc9 : Nat, ∀ x ∈ c.exceptionTable.toList, covers x pc9 = false := fun pc9 x hx9 => by rw [xt_nil hnh] at hx9; cases hx9
  have hl := lv_entry ([.ref (ad 0), .int a, .int b, .long x]) (n := 9) (Nat.le_of_ble_eq_true rfl)
  rw [lg_entry_eq]
  generalize (lg_sl ([.ref (ad 0), .int a, .int b, .long x]) ++ List.replicate (9 - (lg_sl ([.ref (ad 0), .int a, .int b, .long x])).length) Slot.unset).toArray = ls at hl ⊢
  have hl : lv_has ls 9 [(0, .ref (ad 0)), (1, .int a), (2, .int b), (3, .long x)] := hl
  refine lv_aload_n hx hb d_B_clear_0 rfl (lv_at hl 0 rfl) ?_
  refine lv_iload_n hx hb d_B_clear_1 rfl (lv_at hl 1 rfl) ?_
  refine lv_iconst (v := nI 1) hx hb d_B_clear_2 (by decide) ?_
  exact xt_pass (xt_runV (As := [.int a, .int (nI 1)]) (rest := []) ⟨hx, hb, hml, hown, hts⟩ (c_requireKind_t l dC dI ad cI cJ n tc ki ra po se bc bs op pr pe pm a (nI 1) hn hno hl0) (cwV 2 hts (wAll_v kw_201 kw_203 ks_7 kw_1 kw_204) rfl rfl rfl (by decide +kernel) ⟨Nat.le_of_ble_eq_true rfl, Nat.le_of_ble_eq_true rfl⟩) (ro_preV bl_xc hK hP (ci := 0) (q0 := 0) rfl rfl (fun U hU hW => xc_moved hB hW (fun q _ => by rw [hU]))) rfl rfl hl.1 rfl (lv_room (Nat.le_of_ble_eq_true rfl)) d_B_clear_3 ⟨Nat.le_of_ble_eq_true rfl, Nat.le_of_ble_eq_true rfl⟩) (hout _) hlocks (Nat.le_of_ble_eq_true rfl) (Nat.le_of_ble_eq_true rfl)
set_option maxHeartbeats 4000000 in
set_option maxRecDepth 100000 in
theorem c_clear_tb (l : Launch) (dC : Nat → ClassId) (dI : Nat → Nat → Nat) (ad : Nat → Nat) (cI cJ : ClassId) (n tc : Nat) (ki ra : Nat → Int32) (po se : Nat → Int64) (bc : Nat → Int32) (bs op : Nat → Int64) (pr pe : Nat → Int32) (pm : Nat → Int64) (i : Nat) (b : Int32) (x : Int64) (hji : i < n) (hn : n ≤ 15) (hki : ki i = nI 1) (hno : ¬ is_k n ki b (nI 2)) (hl0 : l.stackTraces = false) : xt_Met l y_B_clear (.code y_B_clear b_B_clear 9 (some .long) :: wAll) ({ frames := 7, cells := 1, slots := 6, locals := 113 } : Room) (ro_P [.ref (ad 0), .int (nI i), .int b, .long x] (dC, dI) vwCl [(cI, .int), (cJ, .long)] (cb_w ad cI cJ n tc ki ra po se bc bs op pr pe pm) (xc_ok "ClearingBooks" cb_ks)) "java/lang/IllegalArgumentException" 1 6 := by
  refine xt_ofW (cc := b_B_clear) (maxL := 9) (ret := (some .long)) (by decide) rfl ?_
  intro p e s m args below meth c s₁ B hml hv
  obtain ⟨rfl, hP, hK, hB⟩ := hv
  have hx := B.exec
  have hb := B.bytes
  have hr := B.returns
  have hts0 := atoms_spec (ws := (.code y_B_clear b_B_clear 9 (some .long) :: wAll)) B.pre
  have hts := hts_all hts0
  have hown : s.vm.findClass "ClearingBooks" = some m.cls := findClass_of_methodNamed B.named
  have hlocks := B.notSynchronized
  have hnh := B.noHandlers (hts0 _ List.mem_cons_self)
  have hout : ∀ pc9 : Nat, ∀ x ∈ c.exceptionTable.toList, covers x pc9 = false := fun pc9 x hx9 => by rw [xt_nil hnh] at hx9; cases hx9
  have hl := lv_entry ([.ref (ad 0), .int (nI i), .int b, .long x]) (n := 9) (Nat.le_of_ble_eq_true rfl)
  rw [lg_entry_eq]
  generalize (lg_sl ([.ref (ad 0), .int (nI i), .int b, .long x]) ++ List.replicate (9 - (lg_sl ([.ref (ad 0), .int (nI i), .int b, .long x])).length) Slot.unset).toArray = ls at hl ⊢
  have hl : lv_has ls 9 [(0, .ref (ad 0)), (1, .int (nI i)), (2, .int b), (3, .long x)] := hl
  refine lv_aload_n hx hb d_B_clear_0 rfl (lv_at hl 0 rfl) ?_
  refine lv_iload_n hx hb d_B_clear_1 rfl (lv_at hl 1 rfl) ?_
  refine lv_iconst (v := nI 1) hx hb d_B_clear_2 (by decide) ?_
  refine ro_call (va_runV (As := [.int (nI i), .int (nI 1)]) (rest := []) ⟨hx, hb, hml, hown, hts⟩ (c_requireKind_y l dC dI ad cI cJ n tc ki ra po se bc bs op pr pe pm i (nI 1) hji hn hki) (cwV 2 hts (wAll_v kw_201 kw_203 ks_7 kw_1 kw_204) rfl rfl rfl (by decide +kernel) ⟨Nat.le_of_ble_eq_true rfl, Nat.le_of_ble_eq_true rfl⟩) (ro_preV bl_tt hK hP (ci := 0) (q0 := 0) rfl rfl (fun _ _ _ => trivial)) rfl rfl hl.1 rfl (lv_room (Nat.le_of_ble_eq_true rfl)) d_B_clear_3 ⟨Nat.le_of_ble_eq_true rfl, Nat.le_of_ble_eq_true rfl⟩) ?_
  refine W.eq (g2 := F0 m 6 ls []) rfl ?_
  refine lv_aload_n hx hb d_B_clear_6 rfl (lv_at hl 0 rfl) ?_
  refine lv_iload_n hx hb d_B_clear_7 rfl (lv_at hl 2 rfl) ?_
  refine lv_iconst (v := nI 2) hx hb d_B_clear_8 (by decide) ?_
  exact xt_pass (xt_runV (As := [.int b, .int (nI 2)]) (rest := []) ⟨hx, hb, hml, hown, hts⟩ (c_requireKind_t l dC dI ad cI cJ n tc ki ra po se bc bs op pr pe pm b (nI 2) hn hno hl0) (cwV 2 hts (wAll_v kw_201 kw_203 ks_7 kw_1 kw_204) rfl rfl rfl (by decide +kernel) ⟨Nat.le_of_ble_eq_true rfl, Nat.le_of_ble_eq_true rfl⟩) (ro_preV bl_xc hK hP (ci := 0) (q0 := 0) rfl rfl (fun U hU hW => xc_moved hB hW (fun q _ => by rw [hU]))) rfl rfl hl.1 rfl (lv_room (Nat.le_of_ble_eq_true rfl)) d_B_clear_9 ⟨Nat.le_of_ble_eq_true rfl, Nat.le_of_ble_eq_true rfl⟩) (hout _) hlocks (Nat.le_of_ble_eq_true rfl) (Nat.le_of_ble_eq_true rfl)
set_option maxHeartbeats 4000000 in
set_option maxRecDepth 100000 in
theorem c_clear_tx (l : Launch) (dC : Nat → ClassId) (dI : Nat → Nat → Nat) (ad : Nat → Nat) (cI cJ : ClassId) (n tc : Nat) (ki ra : Nat → Int32) (po se : Nat → Int64) (bc : Nat → Int32) (bs op : Nat → Int64) (pr pe : Nat → Int32) (pm : Nat → Int64) (i j : Nat) (x : Int64) (hji : i < n) (hjj : j < n) (hn : n ≤ 15) (hki : ki i = nI 1) (hkj : ki j = nI 2) (hno : ¬ (¬ x < 1 ∧ ¬ 1000000000000 < x)) (hl0 : l.stackTraces = false) : xt_Met l y_B_clear (.code y_B_clear b_B_clear 9 (some .long) :: wAll) ({ frames := 7, cells := 1, slots := 6, locals := 113 } : Room) (ro_P [.ref (ad 0), .int (nI i), .int (nI j), .long x] (dC, dI) vwCl [(cI, .int), (cJ, .long)] (cb_w ad cI cJ n tc ki ra po se bc bs op pr pe pm) (xc_ok "ClearingBooks" cb_ks)) "java/lang/IllegalArgumentException" 1 6 := by
  refine xt_ofW (cc := b_B_clear) (maxL := 9) (ret := (some .long)) (by decide) rfl ?_
  intro p e s m args below meth c s₁ B hml hv
  obtain ⟨rfl, hP, hK, hB⟩ := hv
  have hx := B.exec
  have hb := B.bytes
  have hr := B.returns
  have hts0 := atoms_spec (ws := (.code y_B_clear b_B_clear 9 (some .long) :: wAll)) B.pre
  have hts := hts_all hts0
  have hown : s.vm.findClass "ClearingBooks" = some m.cls := findClass_of_methodNamed B.named
  have hlocks := B.notSynchronized
  have hnh := B.noHandlers (hts0 _ List.mem_cons_self)
  have hout : ∀ pc9 : Nat, ∀ x ∈ c.exceptionTable.toList, covers x pc9 = false := fun pc9 x hx9 => by rw [xt_nil hnh] at hx9; cases hx9
  have hl := lv_entry ([.ref (ad 0), .int (nI i), .int (nI j), .long x]) (n := 9) (Nat.le_of_ble_eq_true rfl)
  rw [lg_entry_eq]
  generalize (lg_sl ([.ref (ad 0), .int (nI i), .int (nI j), .long x]) ++ List.replicate (9 - (lg_sl ([.ref (ad 0), .int (nI i), .int (nI j), .long x])).length) Slot.unset).toArray = ls at hl ⊢
  have hl : lv_has ls 9 [(0, .ref (ad 0)), (1, .int (nI i)), (2, .int (nI j)), (3, .long x)] := hl
  refine lv_aload_n hx hb d_B_clear_0 rfl (lv_at hl 0 rfl) ?_
  refine lv_iload_n hx hb d_B_clear_1 rfl (lv_at hl 1 rfl) ?_
  refine lv_iconst (v := nI 1) hx hb d_B_clear_2 (by decide) ?_
  refine ro_call (va_runV (As := [.int (nI i), .int (nI 1)]) (rest := []) ⟨hx, hb, hml, hown, hts⟩ (c_requireKind_y l dC dI ad cI cJ n tc ki ra po se bc bs op pr pe pm i (nI 1) hji hn hki) (cwV 2 hts (wAll_v kw_201 kw_203 ks_7 kw_1 kw_204) rfl rfl rfl (by decide +kernel) ⟨Nat.le_of_ble_eq_true rfl, Nat.le_of_ble_eq_true rfl⟩) (ro_preV bl_tt hK hP (ci := 0) (q0 := 0) rfl rfl (fun _ _ _ => trivial)) rfl rfl hl.1 rfl (lv_room (Nat.le_of_ble_eq_true rfl)) d_B_clear_3 ⟨Nat.le_of_ble_eq_true rfl, Nat.le_of_ble_eq_true rfl⟩) ?_
  refine W.eq (g2 := F0 m 6 ls []) rfl ?_
  refine lv_aload_n hx hb d_B_clear_6 rfl (lv_at hl 0 rfl) ?_
  refine lv_iload_n hx hb d_B_clear_7 rfl (lv_at hl 2 rfl) ?_
  refine lv_iconst (v := nI 2) hx hb d_B_clear_8 (by decide) ?_
  refine ro_call (va_runV (As := [.int (nI j), .int (nI 2)]) (rest := []) ⟨hx, hb, hml, hown, hts⟩ (c_requireKind_y l dC dI ad cI cJ n tc ki ra po se bc bs op pr pe pm j (nI 2) hjj hn hkj) (cwV 2 hts (wAll_v kw_201 kw_203 ks_7 kw_1 kw_204) rfl rfl rfl (by decide +kernel) ⟨Nat.le_of_ble_eq_true rfl, Nat.le_of_ble_eq_true rfl⟩) (ro_preV bl_tt hK hP (ci := 0) (q0 := 0) rfl rfl (fun _ _ _ => trivial)) rfl rfl hl.1 rfl (lv_room (Nat.le_of_ble_eq_true rfl)) d_B_clear_9 ⟨Nat.le_of_ble_eq_true rfl, Nat.le_of_ble_eq_true rfl⟩) ?_
  refine W.eq (g2 := F0 m 12 ls []) rfl ?_
  refine lv_lload_n hx hb d_B_clear_12 rfl (lv_at hl 3 rfl) ?_
  refine lv_lconst (v := 1) hx hb d_B_clear_13 (by decide) ?_
  exact xt_pass (xt_runS (As := [.long x, .long 1]) (rest := []) ⟨hx, hb, hml, hown, hts⟩ (c_requireAmount_t l dC dI ad cI cJ n tc ki ra po se bc bs op pr pe pm x 1 hno hl0) (cwS 2 hts (wAll_s kw_210 kw_211 kw_1 kw_212) rfl rfl rfl (by decide +kernel) ⟨Nat.le_of_ble_eq_true rfl, Nat.le_of_ble_eq_true rfl⟩) (ro_preS bl_xc hK hP (fun U hU hW => xc_moved hB hW (fun q _ => by rw [hU]))) rfl rfl hl.1 rfl (lv_room (Nat.le_of_ble_eq_true rfl)) d_B_clear_14 ⟨Nat.le_of_ble_eq_true rfl, Nat.le_of_ble_eq_true rfl⟩) (hout _) hlocks (Nat.le_of_ble_eq_true rfl) (Nat.le_of_ble_eq_true rfl)
set_option maxHeartbeats 4000000 in
set_option maxRecDepth 100000 in
theorem c_back_y (l : Launch) (dC : Nat → ClassId) (dI : Nat → Nat → Nat) (ad : Nat → Nat) (cI cJ : ClassId) (n tc : Nat) (ki ra : Nat → Int32) (po se : Nat → Int64) (bc : Nat → Int32) (bs op : Nat → Int64) (pr pe : Nat → Int32) (pm : Nat → Int64) (sz : Nat) (i j : Nat) (x : Int64) (hji : i < n) (hjj : j < n) (hn : n ≤ 15) (hki : ki i = nI 1) (hkj : ki j = nI 2) (h1 : ¬ x < (-1000000000000)) (h2 : ¬ 1000000000000 < x) : Met l y_B_back (.code y_B_back b_B_back 5 (some .long) :: wAll) ({ frames := 2, cells := 0, slots := 0, locals := 43 } : Room) (mu_P [.ref (ad 0), .int (nI i), .int (nI j), .long x] (dC, dI) vwCl [(cI, .int), (cJ, .long)] (cb_w ad cI cJ n tc ki ra po se bc bs op pr pe pm) sz) (va_Ql (fun (z : Int64) (_ : Unit) => z = po_bk po i j x i) (mu_B (dC, dI) vwCl [(cI, .int), (cJ, .long)] (va_A (cb_w ad cI cJ n tc ki ra po se bc bs op pr pe pm) sz) (cb_w ad cI cJ n tc ki ra (po_bk po i j x) se bc bs op pr pe pm)) (va_A (cb_w ad cI cJ n tc ki ra po se bc bs op pr pe pm) sz)) 0 0 (va_A (cb_w ad cI cJ n tc ki ra po se bc bs op pr pe pm) sz) := by
  refine Met.ofW (cc := b_B_back) (maxL := 5) (ret := (some .long)) (by decide) rfl ?_
  intro p e s m args below meth c s₁ B hml hv
  obtain ⟨rfl, hsz, hP, hK, hD0⟩ := hv
  have hx := B.exec
  have hb := B.bytes
  have hr := B.returns
  have hts0 := atoms_spec (ws := (.code y_B_back b_B_back 5 (some .long) :: wAll)) B.pre
  have hts := hts_all hts0
  have hown : s.vm.findClass "ClearingBooks" = some m.cls := findClass_of_methodNamed B.named
  have hlocks := B.notSynchronized
  subst hsz
  have hD := hD0.self (sz := s.heap.size)
  generalize hAe : va_A (cb_w ad cI cJ n tc ki ra po se bc bs op pr pe pm) s.heap.size = A at hD ⊢
  have hA : ∀ q : Nat, s.heap.size ≤ q → A q := fun q h => by rw [← hAe]; exact Or.inr h
  have hS : va_S A s.heap s.heap [] := va_S.rf
  have hl := lv_entry ([.ref (ad 0), .int (nI i), .int (nI j), .long x]) (n := 5) (Nat.le_of_ble_eq_true rfl)
  rw [lg_entry_eq]
  generalize (lg_sl ([.ref (ad 0), .int (nI i), .int (nI j), .long x]) ++ List.replicate (5 - (lg_sl ([.ref (ad 0), .int (nI i), .int (nI j), .long x])).length) Slot.unset).toArray = ls at hl ⊢
  have hl : lv_has ls 5 [(0, .ref (ad 0)), (1, .int (nI i)), (2, .int (nI j)), (3, .long x)] := hl
  refine lv_aload_n hx hb d_B_back_0 rfl (lv_at hl 0 rfl) ?_
  refine lv_iload_n hx hb d_B_back_1 rfl (lv_at hl 1 rfl) ?_
  refine lv_iconst (v := nI 1) hx hb d_B_back_2 (by decide) ?_
  refine ro_call (va_runV (As := [.int (nI i), .int (nI 1)]) (rest := []) ⟨hx, hb, hml, hown, hts⟩ (c_requireKind_y l dC dI ad cI cJ n tc ki ra po se bc bs op pr pe pm i (nI 1) hji hn hki) (cwV 2 hts (wAll_v kw_201 kw_203 ks_7 kw_1 kw_204) rfl rfl rfl (by decide +kernel) ⟨Nat.le_of_ble_eq_true rfl, Nat.le_of_ble_eq_true rfl⟩) (ro_preV bl_tt hK hP (ci := 0) (q0 := 0) rfl rfl (fun _ _ _ => trivial)) rfl rfl hl.1 rfl (lv_room (Nat.le_of_ble_eq_true rfl)) d_B_back_3 ⟨Nat.le_of_ble_eq_true rfl, Nat.le_of_ble_eq_true rfl⟩) ?_
  refine W.eq (g2 := F0 m 6 ls []) rfl ?_
  refine lv_aload_n hx hb d_B_back_6 rfl (lv_at hl 0 rfl) ?_
  refine lv_iload_n hx hb d_B_back_7 rfl (lv_at hl 2 rfl) ?_
  refine lv_iconst (v := nI 2) hx hb d_B_back_8 (by decide) ?_
  refine ro_call (va_runV (As := [.int (nI j), .int (nI 2)]) (rest := []) ⟨hx, hb, hml, hown, hts⟩ (c_requireKind_y l dC dI ad cI cJ n tc ki ra po se bc bs op pr pe pm j (nI 2) hjj hn hkj) (cwV 2 hts (wAll_v kw_201 kw_203 ks_7 kw_1 kw_204) rfl rfl rfl (by decide +kernel) ⟨Nat.le_of_ble_eq_true rfl, Nat.le_of_ble_eq_true rfl⟩) (ro_preV bl_tt hK hP (ci := 0) (q0 := 0) rfl rfl (fun _ _ _ => trivial)) rfl rfl hl.1 rfl (lv_room (Nat.le_of_ble_eq_true rfl)) d_B_back_9 ⟨Nat.le_of_ble_eq_true rfl, Nat.le_of_ble_eq_true rfl⟩) ?_
  refine W.eq (g2 := F0 m 12 ls []) rfl ?_
  refine lv_lload_n hx hb d_B_back_12 rfl (lv_at hl 3 rfl) ?_
  refine lv_ldc2 (v := (-1000000000000)) hx hb hown (hts _ kw_229) d_B_back_13 ?_
  refine ro_call (va_runS (As := [.long x, .long ((-1000000000000))]) (rest := []) ⟨hx, hb, hml, hown, hts⟩ (c_requireAmount_y l dC dI ad cI cJ n tc ki ra po se bc bs op pr pe pm x ((-1000000000000)) h1 h2) (cwS 2 hts (wAll_s kw_210 kw_211 kw_1 kw_212) rfl rfl rfl (by decide +kernel) ⟨Nat.le_of_ble_eq_true rfl, Nat.le_of_ble_eq_true rfl⟩) (ro_preS bl_tt hK hP (fun _ _ _ => trivial)) rfl rfl hl.1 rfl (lv_room (Nat.le_of_ble_eq_true rfl)) d_B_back_16 ⟨Nat.le_of_ble_eq_true rfl, Nat.le_of_ble_eq_true rfl⟩) ?_
  refine W.eq (g2 := F0 m 19 ls []) rfl ?_
  refine lv_aload_n hx hb d_B_back_19 rfl (lv_at hl 0 rfl) ?_
  refine va_get (D := (dC, dI)) (ci := 0) (v := .ref (ad 3)) (C := "ClearingBooks") (T := T_B) (N := 12) hx hb hts wi_B hown hK hP 0 rfl rfl 3 (by decide) (hts _ kw_20) (fun _ h9 => h9) rfl d_B_back_20 ?_
  refine lv_iload_n hx hb d_B_back_23 rfl (lv_at hl 1 rfl) ?_
  refine lv_dup2_11 hx hb d_B_back_24 rfl rfl ?_
  refine xa_laload (f := po) hx hb hK hP 3 1 rfl rfl (j := i) (by omega) (by decide) d_B_back_25 ?_
  refine lv_lload_n hx hb d_B_back_26 rfl (lv_at hl 3 rfl) ?_
  refine lv_lsub hx hb d_B_back_27 ?_
  refine xa_lastore (f := po) (x := (po i) - x) hx hb hK hP hD hS 3 1 rfl rfl (j := i) (by omega) (by decide) d_B_back_28 (fun H locs hP hD hS => ?_)
  have hP : va_P (dC, dI) vwCl (cb_w ad cI cJ n tc ki ra (vp_updL po i ((po i) - x)) se bc bs op pr pe pm) H := hP
  have hD : va_D A (cb_w ad cI cJ n tc ki ra (vp_updL po i ((po i) - x)) se bc bs op pr pe pm) := hD
  refine lv_aload_n hx hb d_B_back_29 rfl (lv_at hl 0 rfl) ?_
  refine va_get (D := (dC, dI)) (ci := 0) (v := .ref (ad 3)) (C := "ClearingBooks") (T := T_B) (N := 12) hx hb hts wi_B hown hK hP 0 rfl rfl 3 (by decide) (hts _ kw_20) (fun _ h9 => h9) rfl d_B_back_30 ?_
  refine lv_iload_n hx hb d_B_back_33 rfl (lv_at hl 2 rfl) ?_
  refine lv_dup2_11 hx hb d_B_back_34 rfl rfl ?_
  refine xa_laload (f := vp_updL po i ((po i) - x)) hx hb hK hP 3 1 rfl rfl (j := j) (by omega) (by decide) d_B_back_35 ?_
  refine lv_lload_n hx hb d_B_back_36 rfl (lv_at hl 3 rfl) ?_
  refine lv_ladd hx hb d_B_back_37 ?_
  refine xa_lastore (f := vp_updL po i ((po i) - x)) (x := ((vp_updL po i ((po i) - x)) j) + x) hx hb hK hP hD hS 3 1 rfl rfl (j := j) (by omega) (by decide) d_B_back_38 (fun H locs hP hD hS => ?_)
  have hP : va_P (dC, dI) vwCl (cb_w ad cI cJ n tc ki ra (vp_updL (vp_updL po i ((po i) - x)) j (((vp_updL po i ((po i) - x)) j) + x)) se bc bs op pr pe pm) H := hP
  have hD : va_D A (cb_w ad cI cJ n tc ki ra (vp_updL (vp_updL po i ((po i) - x)) j (((vp_updL po i ((po i) - x)) j) + x)) se bc bs op pr pe pm) := hD
  refine lv_aload_n hx hb d_B_back_39 rfl (lv_at hl 0 rfl) ?_
  refine va_get (D := (dC, dI)) (ci := 0) (v := .ref (ad 3)) (C := "ClearingBooks") (T := T_B) (N := 12) hx hb hts wi_B hown hK hP 0 rfl rfl 3 (by decide) (hts _ kw_20) (fun _ h9 => h9) rfl d_B_back_40 ?_
  refine lv_iload_n hx hb d_B_back_43 rfl (lv_at hl 1 rfl) ?_
  refine xa_laload (f := vp_updL (vp_updL po i ((po i) - x)) j (((vp_updL po i ((po i) - x)) j) + x)) hx hb hK hP 3 1 rfl rfl (j := i) (by omega) (by decide) d_B_back_44 ?_
  exact W.lret (v := (vp_updL (vp_updL po i ((po i) - x)) j (((vp_updL po i ((po i) - x)) j) + x)) i) hx hb hr (fun t ht hW => ⟨⟨(vp_updL (vp_updL po i ((po i) - x)) j (((vp_updL po i ((po i) - x)) j) + x)) i, (), rfl, rfl, by rw [ht]; exact hP, va_K.moved hW.alike hK, hD⟩, hS.F ht⟩) hS.2.2 d_B_back_45
set_option maxHeartbeats 4000000 in
set_option maxRecDepth 100000 in
theorem c_back_ta (l : Launch) (dC : Nat → ClassId) (dI : Nat → Nat → Nat) (ad : Nat → Nat) (cI cJ : ClassId) (n tc : Nat) (ki ra : Nat → Int32) (po se : Nat → Int64) (bc : Nat → Int32) (bs op : Nat → Int64) (pr pe : Nat → Int32) (pm : Nat → Int64) (a b : Int32) (x : Int64) (hn : n ≤ 15) (hno : ¬ is_k n ki a (nI 1)) (hl0 : l.stackTraces = false) : xt_Met l y_B_back (.code y_B_back b_B_back 5 (some .long) :: wAll) ({ frames := 7, cells := 1, slots := 6, locals := 113 } : Room) (ro_P [.ref (ad 0), .int a, .int b, .long x] (dC, dI) vwCl [(cI, .int), (cJ, .long)] (cb_w ad cI cJ n tc ki ra po se bc bs op pr pe pm) (xc_ok "ClearingBooks" cb_ks)) "java/lang/IllegalArgumentException" 1 6 := by
  refine xt_ofW (cc := b_B_back) (maxL := 5) (ret := (some .long)) (by decide) rfl ?_
  intro p e s m args below meth c s₁ B hml hv
  obtain ⟨rfl, hP, hK, hB⟩ := hv
  have hx := B.exec
  have hb := B.bytes
  have hr := B.returns
  have hts0 := atoms_spec (ws := (.code y_B_back b_B_back 5 (some .long) :: wAll)) B.pre
  have hts := hts_all hts0
  have hown : s.vm.findClass "ClearingBooks" = some m.cls := findClass_of_methodNamed B.named
  have hlocks := B.notSynchronized
  have hnh := B.noHandlers (hts0 _ List.mem_cons_self)
  have hout : ∀ pc9 : Nat, ∀ x ∈ c.exceptionTable.toList, covers x pc9 = false := fun pc9 x hx9 => by rw [xt_nil hnh] at hx9; cases hx9
  have hl := lv_entry ([.ref (ad 0), .int a, .int b, .long x]) (n := 5) (Nat.le_of_ble_eq_true rfl)
  rw [lg_entry_eq]
  generalize (lg_sl ([.ref (ad 0), .int a, .int b, .long x]) ++ List.replicate (5 - (lg_sl ([.ref (ad 0), .int a, .int b, .long x])).length) Slot.unset).toArray = ls at hl ⊢
  have hl : lv_has ls 5 [(0, .ref (ad 0)), (1, .int a), (2, .int b), (3, .long x)] := hl
  refine lv_aload_n hx hb d_B_back_0 rfl (lv_at hl 0 rfl) ?_
  refine lv_iload_n hx hb d_B_back_1 rfl (lv_at hl 1 rfl) ?_
  refine lv_iconst (v := nI 1) hx hb d_B_back_2 (by decide) ?_
  exact xt_pass (xt_runV (As := [.int a, .int (nI 1)]) (rest := []) ⟨hx, hb, hml, hown, hts⟩ (c_requireKind_t l dC dI ad cI cJ n tc ki ra po se bc bs op pr pe pm a (nI 1) hn hno hl0) (cwV 2 hts (wAll_v kw_201 kw_203 ks_7 kw_1 kw_204) rfl rfl rfl (by decide +kernel) ⟨Nat.le_of_ble_eq_true rfl, Nat.le_of_ble_eq_true rfl⟩) (ro_preV bl_xc hK hP (ci := 0) (q0 := 0) rfl rfl (fun U hU hW => xc_moved hB hW (fun q _ => by rw [hU]))) rfl rfl hl.1 rfl (lv_room (Nat.le_of_ble_eq_true rfl)) d_B_back_3 ⟨Nat.le_of_ble_eq_true rfl, Nat.le_of_ble_eq_true rfl⟩) (hout _) hlocks (Nat.le_of_ble_eq_true rfl) (Nat.le_of_ble_eq_true rfl)
set_option maxHeartbeats 4000000 in
set_option maxRecDepth 100000 in
theorem c_back_tb (l : Launch) (dC : Nat → ClassId) (dI : Nat → Nat → Nat) (ad : Nat → Nat) (cI cJ : ClassId) (n tc : Nat) (ki ra : Nat → Int32) (po se : Nat → Int64) (bc : Nat → Int32) (bs op : Nat → Int64) (pr pe : Nat → Int32) (pm : Nat → Int64) (i : Nat) (b : Int32) (x : Int64) (hji : i < n) (hn : n ≤ 15) (hki : ki i = nI 1) (hno : ¬ is_k n ki b (nI 2)) (hl0 : l.stackTraces = false) : xt_Met l y_B_back (.code y_B_back b_B_back 5 (some .long) :: wAll) ({ frames := 7, cells := 1, slots := 6, locals := 113 } : Room) (ro_P [.ref (ad 0), .int (nI i), .int b, .long x] (dC, dI) vwCl [(cI, .int), (cJ, .long)] (cb_w ad cI cJ n tc ki ra po se bc bs op pr pe pm) (xc_ok "ClearingBooks" cb_ks)) "java/lang/IllegalArgumentException" 1 6 := by
  refine xt_ofW (cc := b_B_back) (maxL := 5) (ret := (some .long)) (by decide) rfl ?_
  intro p e s m args below meth c s₁ B hml hv
  obtain ⟨rfl, hP, hK, hB⟩ := hv
  have hx := B.exec
  have hb := B.bytes
  have hr := B.returns
  have hts0 := atoms_spec (ws := (.code y_B_back b_B_back 5 (some .long) :: wAll)) B.pre
  have hts := hts_all hts0
  have hown : s.vm.findClass "ClearingBooks" = some m.cls := findClass_of_methodNamed B.named
  have hlocks := B.notSynchronized
  have hnh := B.noHandlers (hts0 _ List.mem_cons_self)
  have hout : ∀ pc9 : Nat, ∀ x ∈ c.exceptionTable.toList, covers x pc9 = false := fun pc9 x hx9 => by rw [xt_nil hnh] at hx9; cases hx9
  have hl := lv_entry ([.ref (ad 0), .int (nI i), .int b, .long x]) (n := 5) (Nat.le_of_ble_eq_true rfl)
  rw [lg_entry_eq]
  generalize (lg_sl ([.ref (ad 0), .int (nI i), .int b, .long x]) ++ List.replicate (5 - (lg_sl ([.ref (ad 0), .int (nI i), .int b, .long x])).length) Slot.unset).toArray = ls at hl ⊢
  have hl : lv_has ls 5 [(0, .ref (ad 0)), (1, .int (nI i)), (2, .int b), (3, .long x)] := hl
  refine lv_aload_n hx hb d_B_back_0 rfl (lv_at hl 0 rfl) ?_
  refine lv_iload_n hx hb d_B_back_1 rfl (lv_at hl 1 rfl) ?_
  refine lv_iconst (v := nI 1) hx hb d_B_back_2 (by decide) ?_
  refine ro_call (va_runV (As := [.int (nI i), .int (nI 1)]) (rest := []) ⟨hx, hb, hml, hown, hts⟩ (c_requireKind_y l dC dI ad cI cJ n tc ki ra po se bc bs op pr pe pm i (nI 1) hji hn hki) (cwV 2 hts (wAll_v kw_201 kw_203 ks_7 kw_1 kw_204) rfl rfl rfl (by decide +kernel) ⟨Nat.le_of_ble_eq_true rfl, Nat.le_of_ble_eq_true rfl⟩) (ro_preV bl_tt hK hP (ci := 0) (q0 := 0) rfl rfl (fun _ _ _ => trivial)) rfl rfl hl.1 rfl (lv_room (Nat.le_of_ble_eq_true rfl)) d_B_back_3 ⟨Nat.le_of_ble_eq_true rfl, Nat.le_of_ble_eq_true rfl⟩) ?_
  refine W.eq (g2 := F0 m 6 ls []) rfl ?_
  refine lv_aload_n hx hb d_B_back_6 rfl (lv_at hl 0 rfl) ?_
  refine lv_iload_n hx hb d_B_back_7 rfl (lv_at hl 2 rfl) ?_
  refine lv_iconst (v := nI 2) hx hb d_B_back_8 (by decide) ?_
  exact xt_pass (xt_runV (As := [.int b, .int (nI 2)]) (rest := []) ⟨hx, hb, hml, hown, hts⟩ (c_requireKind_t l dC dI ad cI cJ n tc ki ra po se bc bs op pr pe pm b (nI 2) hn hno hl0) (cwV 2 hts (wAll_v kw_201 kw_203 ks_7 kw_1 kw_204) rfl rfl rfl (by decide +kernel) ⟨Nat.le_of_ble_eq_true rfl, Nat.le_of_ble_eq_true rfl⟩) (ro_preV bl_xc hK hP (ci := 0) (q0 := 0) rfl rfl (fun U hU hW => xc_moved hB hW (fun q _ => by rw [hU]))) rfl rfl hl.1 rfl (lv_room (Nat.le_of_ble_eq_true rfl)) d_B_back_9 ⟨Nat.le_of_ble_eq_true rfl, Nat.le_of_ble_eq_true rfl⟩) (hout _) hlocks (Nat.le_of_ble_eq_true rfl) (Nat.le_of_ble_eq_true rfl)
set_option maxHeartbeats 4000000 in
set_option maxRecDepth 100000 in
theorem c_back_tx (l : Launch) (dC : Nat → ClassId) (dI : Nat → Nat → Nat) (ad : Nat → Nat) (cI cJ : ClassId) (n tc : Nat) (ki ra : Nat → Int32) (po se : Nat → Int64) (bc : Nat → Int32) (bs op : Nat → Int64) (pr pe : Nat → Int32) (pm : Nat → Int64) (i j : Nat) (x : Int64) (hji : i < n) (hjj : j < n) (hn : n ≤ 15) (hki : ki i = nI 1) (hkj : ki j = nI 2) (hno : ¬ (¬ x < (-1000000000000) ∧ ¬ 1000000000000 < x)) (hl0 : l.stackTraces = false) : xt_Met l y_B_back (.code y_B_back b_B_back 5 (some .long) :: wAll) ({ frames := 7, cells := 1, slots := 6, locals := 113 } : Room) (ro_P [.ref (ad 0), .int (nI i), .int (nI j), .long x] (dC, dI) vwCl [(cI, .int), (cJ, .long)] (cb_w ad cI cJ n tc ki ra po se bc bs op pr pe pm) (xc_ok "ClearingBooks" cb_ks)) "java/lang/IllegalArgumentException" 1 6 := by
  refine xt_ofW (cc := b_B_back) (maxL := 5) (ret := (some .long)) (by decide) rfl ?_
  intro p e s m args below meth c s₁ B hml hv
  obtain ⟨rfl, hP, hK, hB⟩ := hv
  have hx := B.exec
  have hb := B.bytes
  have hr := B.returns
  have hts0 := atoms_spec (ws := (.code y_B_back b_B_back 5 (some .long) :: wAll)) B.pre
  have hts := hts_all hts0
  have hown : s.vm.findClass "ClearingBooks" = some m.cls := findClass_of_methodNamed B.named
  have hlocks := B.notSynchronized
  have hnh := B.noHandlers (hts0 _ List.mem_cons_self)
  have hout : ∀ pc9 : Nat, ∀ x ∈ c.exceptionTable.toList, covers x pc9 = false := fun pc9 x hx9 => by rw [xt_nil hnh] at hx9; cases hx9
  have hl := lv_entry ([.ref (ad 0), .int (nI i), .int (nI j), .long x]) (n := 5) (Nat.le_of_ble_eq_true rfl)
  rw [lg_entry_eq]
  generalize (lg_sl ([.ref (ad 0), .int (nI i), .int (nI j), .long x]) ++ List.replicate (5 - (lg_sl ([.ref (ad 0), .int (nI i), .int (nI j), .long x])).length) Slot.unset).toArray = ls at hl ⊢
  have hl : lv_has ls 5 [(0, .ref (ad 0)), (1, .int (nI i)), (2, .int (nI j)), (3, .long x)] := hl
  refine lv_aload_n hx hb d_B_back_0 rfl (lv_at hl 0 rfl) ?_
  refine lv_iload_n hx hb d_B_back_1 rfl (lv_at hl 1 rfl) ?_
  refine lv_iconst (v := nI 1) hx hb d_B_back_2 (by decide) ?_
  refine ro_call (va_runV (As := [.int (nI i), .int (nI 1)]) (rest := []) ⟨hx, hb, hml, hown, hts⟩ (c_requireKind_y l dC dI ad cI cJ n tc ki ra po se bc bs op pr pe pm i (nI 1) hji hn hki) (cwV 2 hts (wAll_v kw_201 kw_203 ks_7 kw_1 kw_204) rfl rfl rfl (by decide +kernel) ⟨Nat.le_of_ble_eq_true rfl, Nat.le_of_ble_eq_true rfl⟩) (ro_preV bl_tt hK hP (ci := 0) (q0 := 0) rfl rfl (fun _ _ _ => trivial)) rfl rfl hl.1 rfl (lv_room (Nat.le_of_ble_eq_true rfl)) d_B_back_3 ⟨Nat.le_of_ble_eq_true rfl, Nat.le_of_ble_eq_true rfl⟩) ?_
  refine W.eq (g2 := F0 m 6 ls []) rfl ?_
  refine lv_aload_n hx hb d_B_back_6 rfl (lv_at hl 0 rfl) ?_
  refine lv_iload_n hx hb d_B_back_7 rfl (lv_at hl 2 rfl) ?_
  refine lv_iconst (v := nI 2) hx hb d_B_back_8 (by decide) ?_
  refine ro_call (va_runV (As := [.int (nI j), .int (nI 2)]) (rest := []) ⟨hx, hb, hml, hown, hts⟩ (c_requireKind_y l dC dI ad cI cJ n tc ki ra po se bc bs op pr pe pm j (nI 2) hjj hn hkj) (cwV 2 hts (wAll_v kw_201 kw_203 ks_7 kw_1 kw_204) rfl rfl rfl (by decide +kernel) ⟨Nat.le_of_ble_eq_true rfl, Nat.le_of_ble_eq_true rfl⟩) (ro_preV bl_tt hK hP (ci := 0) (q0 := 0) rfl rfl (fun _ _ _ => trivial)) rfl rfl hl.1 rfl (lv_room (Nat.le_of_ble_eq_true rfl)) d_B_back_9 ⟨Nat.le_of_ble_eq_true rfl, Nat.le_of_ble_eq_true rfl⟩) ?_
  refine W.eq (g2 := F0 m 12 ls []) rfl ?_
  refine lv_lload_n hx hb d_B_back_12 rfl (lv_at hl 3 rfl) ?_
  refine lv_ldc2 (v := (-1000000000000)) hx hb hown (hts _ kw_229) d_B_back_13 ?_
  exact xt_pass (xt_runS (As := [.long x, .long ((-1000000000000))]) (rest := []) ⟨hx, hb, hml, hown, hts⟩ (c_requireAmount_t l dC dI ad cI cJ n tc ki ra po se bc bs op pr pe pm x ((-1000000000000)) hno hl0) (cwS 2 hts (wAll_s kw_210 kw_211 kw_1 kw_212) rfl rfl rfl (by decide +kernel) ⟨Nat.le_of_ble_eq_true rfl, Nat.le_of_ble_eq_true rfl⟩) (ro_preS bl_xc hK hP (fun U hU hW => xc_moved hB hW (fun q _ => by rw [hU]))) rfl rfl hl.1 rfl (lv_room (Nat.le_of_ble_eq_true rfl)) d_B_back_16 ⟨Nat.le_of_ble_eq_true rfl, Nat.le_of_ble_eq_true rfl⟩) (hout _) hlocks (Nat.le_of_ble_eq_true rfl) (Nat.le_of_ble_eq_true rfl)
set_option maxHeartbeats 4000000 in
set_option maxRecDepth 100000 in
theorem c_reconcile_y (l : Launch) (dC : Nat → ClassId) (dI : Nat → Nat → Nat) (ad : Nat → Nat) (cI cJ : ClassId) (n tc : Nat) (ki ra : Nat → Int32) (po se : Nat → Int64) (bc : Nat → Int32) (bs op : Nat → Int64) (pr pe : Nat → Int32) (pm : Nat → Int64) (sz : Nat) (i : Nat) (k : Int32) (x : Int64) (hji : i < n) (hn : n ≤ 15) (hki : ki i = nI 1) (hy : bc i = k ∧ bs i = x) : Met l y_B_reconcile (.code y_B_reconcile b_B_reconcile 5 (some .boolean) :: wAll) ({ frames := 2, cells := 0, slots := 0, locals := 43 } : Room) (mu_P [.ref (ad 0), .int (nI i), .int k, .long x] (dC, dI) vwCl [(cI, .int), (cJ, .long)] (cb_w ad cI cJ n tc ki ra po se bc bs op pr pe pm) sz) (va_Qi (fun (z : Int32) (_ : Unit) => z = nI 1) (mu_B (dC, dI) vwCl [(cI, .int), (cJ, .long)] (va_A (cb_w ad cI cJ n tc ki ra po se bc bs op pr pe pm) sz) (cb_w ad cI cJ n tc ki ra po se (upd bc i (nI 0)) (vp_updL bs i 0) op pr pe pm)) (va_A (cb_w ad cI cJ n tc ki ra po se bc bs op pr pe pm) sz)) 0 0 (va_A (cb_w ad cI cJ n tc ki ra po se bc bs op pr pe pm) sz) := by
  refine Met.ofW (cc := b_B_reconcile) (maxL := 5) (ret := (some .boolean)) (by decide) rfl ?_
  intro p e s m args below meth c s₁ B hml hv
  obtain ⟨rfl, hsz, hP, hK, hD0⟩ := hv
  have hx := B.exec
  have hb := B.bytes
  have hr := B.returns
  have hts0 := atoms_spec (ws := (.code y_B_reconcile b_B_reconcile 5 (some .boolean) :: wAll)) B.pre
  have hts := hts_all hts0
  have hown : s.vm.findClass "ClearingBooks" = some m.cls := findClass_of_methodNamed B.named
  have hlocks := B.notSynchronized
  subst hsz
  have hD := hD0.self (sz := s.heap.size)
  generalize hAe : va_A (cb_w ad cI cJ n tc ki ra po se bc bs op pr pe pm) s.heap.size = A at hD ⊢
  have hA : ∀ q : Nat, s.heap.size ≤ q → A q := fun q h => by rw [← hAe]; exact Or.inr h
  have hS : va_S A s.heap s.heap [] := va_S.rf
  have hl := lv_entry ([.ref (ad 0), .int (nI i), .int k, .long x]) (n := 5) (Nat.le_of_ble_eq_true rfl)
  rw [lg_entry_eq]
  generalize (lg_sl ([.ref (ad 0), .int (nI i), .int k, .long x]) ++ List.replicate (5 - (lg_sl ([.ref (ad 0), .int (nI i), .int k, .long x])).length) Slot.unset).toArray = ls at hl ⊢
  have hl : lv_has ls 5 [(0, .ref (ad 0)), (1, .int (nI i)), (2, .int k), (3, .long x)] := hl
  refine lv_aload_n hx hb d_B_reconcile_0 rfl (lv_at hl 0 rfl) ?_
  refine lv_iload_n hx hb d_B_reconcile_1 rfl (lv_at hl 1 rfl) ?_
  refine lv_iconst (v := nI 1) hx hb d_B_reconcile_2 (by decide) ?_
  refine ro_call (va_runV (As := [.int (nI i), .int (nI 1)]) (rest := []) ⟨hx, hb, hml, hown, hts⟩ (c_requireKind_y l dC dI ad cI cJ n tc ki ra po se bc bs op pr pe pm i (nI 1) hji hn hki) (cwV 2 hts (wAll_v kw_201 kw_203 ks_7 kw_1 kw_204) rfl rfl rfl (by decide +kernel) ⟨Nat.le_of_ble_eq_true rfl, Nat.le_of_ble_eq_true rfl⟩) (ro_preV bl_tt hK hP (ci := 0) (q0 := 0) rfl rfl (fun _ _ _ => trivial)) rfl rfl hl.1 rfl (lv_room (Nat.le_of_ble_eq_true rfl)) d_B_reconcile_3 ⟨Nat.le_of_ble_eq_true rfl, Nat.le_of_ble_eq_true rfl⟩) ?_
  refine W.eq (g2 := F0 m 6 ls []) rfl ?_
  refine lv_aload_n hx hb d_B_reconcile_6 rfl (lv_at hl 0 rfl) ?_
  refine va_get (D := (dC, dI)) (ci := 0) (v := .ref (ad 5)) (C := "ClearingBooks") (T := T_B) (N := 12) hx hb hts wi_B hown hK hP 0 rfl rfl 5 (by decide) (hts _ kw_22) (fun _ h9 => h9) rfl d_B_reconcile_7 ?_
  refine lv_iload_n hx hb d_B_reconcile_10 rfl (lv_at hl 1 rfl) ?_
  refine xa_iaload (f := bc) hx hb hK hP 5 0 rfl rfl (j := i) (by omega) (by decide) d_B_reconcile_11 ?_
  refine lv_iload_n hx hb d_B_reconcile_12 rfl (lv_at hl 2 rfl) ?_
  refine lv_icmp_ne (tgt := 27) hx hb d_B_reconcile_13 (by decide) (fun c1 => ?_) (fun c1 => ?_)
  · exact absurd hy.1 c1
  · refine lv_aload_n hx hb d_B_reconcile_16 rfl (lv_at hl 0 rfl) ?_
    refine va_get (D := (dC, dI)) (ci := 0) (v := .ref (ad 6)) (C := "ClearingBooks") (T := T_B) (N := 12) hx hb hts wi_B hown hK hP 0 rfl rfl 6 (by decide) (hts _ kw_23) (fun _ h9 => h9) rfl d_B_reconcile_17 ?_
    refine lv_iload_n hx hb d_B_reconcile_20 rfl (lv_at hl 1 rfl) ?_
    refine xa_laload (f := bs) hx hb hK hP 6 1 rfl rfl (j := i) (by omega) (by decide) d_B_reconcile_21 ?_
    refine lv_lload_n hx hb d_B_reconcile_22 rfl (lv_at hl 3 rfl) ?_
    refine W.lcmp hx hb d_B_reconcile_23 ?_
    refine lv_if_eq (tgt := 29) hx hb d_B_reconcile_24 (by decide) (fun c2 => ?_) (fun c2 => ?_)
    · replace c2 := (lg_cmp_eq _ _).mp c2
      refine lv_aload_n hx hb d_B_reconcile_29 rfl (lv_at hl 0 rfl) ?_
      refine va_get (D := (dC, dI)) (ci := 0) (v := .ref (ad 5)) (C := "ClearingBooks") (T := T_B) (N := 12) hx hb hts wi_B hown hK hP 0 rfl rfl 5 (by decide) (hts _ kw_22) (fun _ h9 => h9) rfl d_B_reconcile_30 ?_
      refine lv_iload_n hx hb d_B_reconcile_33 rfl (lv_at hl 1 rfl) ?_
      refine lv_iconst (v := nI 0) hx hb d_B_reconcile_34 (by decide) ?_
      refine xa_iastore (f := bc) (x := nI 0) hx hb hK hP hD hS 5 0 rfl rfl (j := i) (by omega) (by decide) d_B_reconcile_35 (fun H locs hP hD hS => ?_)
      have hP : va_P (dC, dI) vwCl (cb_w ad cI cJ n tc ki ra po se (upd bc i (nI 0)) bs op pr pe pm) H := hP
      have hD : va_D A (cb_w ad cI cJ n tc ki ra po se (upd bc i (nI 0)) bs op pr pe pm) := hD
      refine lv_aload_n hx hb d_B_reconcile_36 rfl (lv_at hl 0 rfl) ?_
      refine va_get (D := (dC, dI)) (ci := 0) (v := .ref (ad 6)) (C := "ClearingBooks") (T := T_B) (N := 12) hx hb hts wi_B hown hK hP 0 rfl rfl 6 (by decide) (hts _ kw_23) (fun _ h9 => h9) rfl d_B_reconcile_37 ?_
      refine lv_iload_n hx hb d_B_reconcile_40 rfl (lv_at hl 1 rfl) ?_
      refine lv_lconst (v := 0) hx hb d_B_reconcile_41 (by decide) ?_
      refine xa_lastore (f := bs) (x := 0) hx hb hK hP hD hS 6 1 rfl rfl (j := i) (by omega) (by decide) d_B_reconcile_42 (fun H locs hP hD hS => ?_)
      have hP : va_P (dC, dI) vwCl (cb_w ad cI cJ n tc ki ra po se (upd bc i (nI 0)) (vp_updL bs i 0) op pr pe pm) H := hP
      have hD : va_D A (cb_w ad cI cJ n tc ki ra po se (upd bc i (nI 0)) (vp_updL bs i 0) op pr pe pm) := hD
      refine lv_iconst (v := nI 1) hx hb d_B_reconcile_43 (by decide) ?_
      exact W.zret (v := nI 1) hx hb hr rfl (fun t ht hW => ⟨⟨nI 1, (), rfl, rfl, by rw [ht]; exact hP, va_K.moved hW.alike hK, hD⟩, hS.F ht⟩) hS.2.2 d_B_reconcile_44
    · replace c2 := mt (lg_cmp_eq _ _).mpr c2
      exact absurd hy.2 c2
set_option maxHeartbeats 4000000 in
set_option maxRecDepth 100000 in
theorem c_reconcile_n (l : Launch) (dC : Nat → ClassId) (dI : Nat → Nat → Nat) (ad : Nat → Nat) (cI cJ : ClassId) (n tc : Nat) (ki ra : Nat → Int32) (po se : Nat → Int64) (bc : Nat → Int32) (bs op : Nat → Int64) (pr pe : Nat → Int32) (pm : Nat → Int64) (sz : Nat) (i : Nat) (k : Int32) (x : Int64) (hji : i < n) (hn : n ≤ 15) (hki : ki i = nI 1) (hy : ¬ (bc i = k ∧ bs i = x)) : Met l y_B_reconcile (.code y_B_reconcile b_B_reconcile 5 (some .boolean) :: wAll) ({ frames := 2, cells := 0, slots := 0, locals := 43 } : Room) (mu_P [.ref (ad 0), .int (nI i), .int k, .long x] (dC, dI) vwCl [(cI, .int), (cJ, .long)] (cb_w ad cI cJ n tc ki ra po se bc bs op pr pe pm) sz) (va_Qi (fun (z : Int32) (_ : Unit) => z = nI 0) (mu_B (dC, dI) vwCl [(cI, .int), (cJ, .long)] (va_A (cb_w ad cI cJ n tc ki ra po se bc bs op pr pe pm) sz) (cb_w ad cI cJ n tc ki ra po se bc bs op pr pe pm)) (va_A (cb_w ad cI cJ n tc ki ra po se bc bs op pr pe pm) sz)) 0 0 (va_A (cb_w ad cI cJ n tc ki ra po se bc bs op pr pe pm) sz) := by
  refine Met.ofW (cc := b_B_reconcile) (maxL := 5) (ret := (some .boolean)) (by decide) rfl ?_
  intro p e s m args below meth c s₁ B hml hv
  obtain ⟨rfl, hsz, hP, hK, hD0⟩ := hv
  have hx := B.exec
  have hb := B.bytes
  have hr := B.returns
  have hts0 := atoms_spec (ws := (.code y_B_reconcile b_B_reconcile 5 (some .boolean) :: wAll)) B.pre
  have hts := hts_all hts0
  have hown : s.vm.findClass "ClearingBooks" = some m.cls := findClass_of_methodNamed B.named
  have hlocks := B.notSynchronized
  subst hsz
  have hD := hD0.self (sz := s.heap.size)
  generalize hAe : va_A (cb_w ad cI cJ n tc ki ra po se bc bs op pr pe pm) s.heap.size = A at hD ⊢
  have hA : ∀ q : Nat, s.heap.size ≤ q → A q := fun q h => by rw [← hAe]; exact Or.inr h
  have hS : va_S A s.heap s.heap [] := va_S.rf
  have hl := lv_entry ([.ref (ad 0), .int (nI i), .int k, .long x]) (n := 5) (Nat.le_of_ble_eq_true rfl)
  rw [lg_entry_eq]
  generalize (lg_sl ([.ref (ad 0), .int (nI i), .int k, .long x]) ++ List.replicate (5 - (lg_sl ([.ref (ad 0), .int (nI i), .int k, .long x])).length) Slot.unset).toArray = ls at hl ⊢
  have hl : lv_has ls 5 [(0, .ref (ad 0)), (1, .int (nI i)), (2, .int k), (3, .long x)] := hl
  refine lv_aload_n hx hb d_B_reconcile_0 rfl (lv_at hl 0 rfl) ?_
  refine lv_iload_n hx hb d_B_reconcile_1 rfl (lv_at hl 1 rfl) ?_
  refine lv_iconst (v := nI 1) hx hb d_B_reconcile_2 (by decide) ?_
  refine ro_call (va_runV (As := [.int (nI i), .int (nI 1)]) (rest := []) ⟨hx, hb, hml, hown, hts⟩ (c_requireKind_y l dC dI ad cI cJ n tc ki ra po se bc bs op pr pe pm i (nI 1) hji hn hki) (cwV 2 hts (wAll_v kw_201 kw_203 ks_7 kw_1 kw_204) rfl rfl rfl (by decide +kernel) ⟨Nat.le_of_ble_eq_true rfl, Nat.le_of_ble_eq_true rfl⟩) (ro_preV bl_tt hK hP (ci := 0) (q0 := 0) rfl rfl (fun _ _ _ => trivial)) rfl rfl hl.1 rfl (lv_room (Nat.le_of_ble_eq_true rfl)) d_B_reconcile_3 ⟨Nat.le_of_ble_eq_true rfl, Nat.le_of_ble_eq_true rfl⟩) ?_
  refine W.eq (g2 := F0 m 6 ls []) rfl ?_
  refine lv_aload_n hx hb d_B_reconcile_6 rfl (lv_at hl 0 rfl) ?_
  refine va_get (D := (dC, dI)) (ci := 0) (v := .ref (ad 5)) (C := "ClearingBooks") (T := T_B) (N := 12) hx hb hts wi_B hown hK hP 0 rfl rfl 5 (by decide) (hts _ kw_22) (fun _ h9 => h9) rfl d_B_reconcile_7 ?_
  refine lv_iload_n hx hb d_B_reconcile_10 rfl (lv_at hl 1 rfl) ?_
  refine xa_iaload (f := bc) hx hb hK hP 5 0 rfl rfl (j := i) (by omega) (by decide) d_B_reconcile_11 ?_
  refine lv_iload_n hx hb d_B_reconcile_12 rfl (lv_at hl 2 rfl) ?_
  refine lv_icmp_ne (tgt := 27) hx hb d_B_reconcile_13 (by decide) (fun c1 => ?_) (fun c1 => ?_)
  · refine lv_iconst (v := nI 0) hx hb d_B_reconcile_27 (by decide) ?_
    exact W.zret (v := nI 0) hx hb hr rfl (fun t ht hW => ⟨⟨nI 0, (), rfl, rfl, by rw [ht]; exact hP, va_K.moved hW.alike hK, hD⟩, hS.F ht⟩) hS.2.2 d_B_reconcile_28
  · refine lv_aload_n hx hb d_B_reconcile_16 rfl (lv_at hl 0 rfl) ?_
    refine va_get (D := (dC, dI)) (ci := 0) (v := .ref (ad 6)) (C := "ClearingBooks") (T := T_B) (N := 12) hx hb hts wi_B hown hK hP 0 rfl rfl 6 (by decide) (hts _ kw_23) (fun _ h9 => h9) rfl d_B_reconcile_17 ?_
    refine lv_iload_n hx hb d_B_reconcile_20 rfl (lv_at hl 1 rfl) ?_
    refine xa_laload (f := bs) hx hb hK hP 6 1 rfl rfl (j := i) (by omega) (by decide) d_B_reconcile_21 ?_
    refine lv_lload_n hx hb d_B_reconcile_22 rfl (lv_at hl 3 rfl) ?_
    refine W.lcmp hx hb d_B_reconcile_23 ?_
    refine lv_if_eq (tgt := 29) hx hb d_B_reconcile_24 (by decide) (fun c2 => ?_) (fun c2 => ?_)
    · replace c2 := (lg_cmp_eq _ _).mp c2
      exact absurd ⟨c1, c2⟩ hy
    · replace c2 := mt (lg_cmp_eq _ _).mpr c2
      refine lv_iconst (v := nI 0) hx hb d_B_reconcile_27 (by decide) ?_
      exact W.zret (v := nI 0) hx hb hr rfl (fun t ht hW => ⟨⟨nI 0, (), rfl, rfl, by rw [ht]; exact hP, va_K.moved hW.alike hK, hD⟩, hS.F ht⟩) hS.2.2 d_B_reconcile_28
set_option maxHeartbeats 4000000 in
set_option maxRecDepth 100000 in
theorem c_reconcile_t (l : Launch) (dC : Nat → ClassId) (dI : Nat → Nat → Nat) (ad : Nat → Nat) (cI cJ : ClassId) (n tc : Nat) (ki ra : Nat → Int32) (po se : Nat → Int64) (bc : Nat → Int32) (bs op : Nat → Int64) (pr pe : Nat → Int32) (pm : Nat → Int64) (a k : Int32) (x : Int64) (hn : n ≤ 15) (hno : ¬ is_k n ki a (nI 1)) (hl0 : l.stackTraces = false) : xt_Met l y_B_reconcile (.code y_B_reconcile b_B_reconcile 5 (some .boolean) :: wAll) ({ frames := 7, cells := 1, slots := 6, locals := 112 } : Room) (ro_P [.ref (ad 0), .int a, .int k, .long x] (dC, dI) vwCl [(cI, .int), (cJ, .long)] (cb_w ad cI cJ n tc ki ra po se bc bs op pr pe pm) (xc_ok "ClearingBooks" cb_ks)) "java/lang/IllegalArgumentException" 1 6 := by
  refine xt_ofW (cc := b_B_reconcile) (maxL := 5) (ret := (some .boolean)) (by decide) rfl ?_
  intro p e s m args below meth c s₁ B hml hv
  obtain ⟨rfl, hP, hK, hB⟩ := hv
  have hx := B.exec
  have hb := B.bytes
  have hr := B.returns
  have hts0 := atoms_spec (ws := (.code y_B_reconcile b_B_reconcile 5 (some .boolean) :: wAll)) B.pre
  have hts := hts_all hts0
  have hown : s.vm.findClass "ClearingBooks" = some m.cls := findClass_of_methodNamed B.named
  have hlocks := B.notSynchronized
  have hnh := B.noHandlers (hts0 _ List.mem_cons_self)
  have hout : ∀ pc9 : Nat, ∀ x ∈ c.exceptionTable.toList, covers x pc9 = false := fun pc9 x hx9 => by rw [xt_nil hnh] at hx9; cases hx9
  have hl := lv_entry ([.ref (ad 0), .int a, .int k, .long x]) (n := 5) (Nat.le_of_ble_eq_true rfl)
  rw [lg_entry_eq]
  generalize (lg_sl ([.ref (ad 0), .int a, .int k, .long x]) ++ List.replicate (5 - (lg_sl ([.ref (ad 0), .int a, .int k, .long x])).length) Slot.unset).toArray = ls at hl ⊢
  have hl : lv_has ls 5 [(0, .ref (ad 0)), (1, .int a), (2, .int k), (3, .long x)] := hl
  refine lv_aload_n hx hb d_B_reconcile_0 rfl (lv_at hl 0 rfl) ?_
  refine lv_iload_n hx hb d_B_reconcile_1 rfl (lv_at hl 1 rfl) ?_
  refine lv_iconst (v := nI 1) hx hb d_B_reconcile_2 (by decide) ?_
  exact xt_pass (xt_runV (As := [.int a, .int (nI 1)]) (rest := []) ⟨hx, hb, hml, hown, hts⟩ (c_requireKind_t l dC dI ad cI cJ n tc ki ra po se bc bs op pr pe pm a (nI 1) hn hno hl0) (cwV 2 hts (wAll_v kw_201 kw_203 ks_7 kw_1 kw_204) rfl rfl rfl (by decide +kernel) ⟨Nat.le_of_ble_eq_true rfl, Nat.le_of_ble_eq_true rfl⟩) (ro_preV bl_xc hK hP (ci := 0) (q0 := 0) rfl rfl (fun U hU hW => xc_moved hB hW (fun q _ => by rw [hU]))) rfl rfl hl.1 rfl (lv_room (Nat.le_of_ble_eq_true rfl)) d_B_reconcile_3 ⟨Nat.le_of_ble_eq_true rfl, Nat.le_of_ble_eq_true rfl⟩) (hout _) hlocks (Nat.le_of_ble_eq_true rfl) (Nat.le_of_ble_eq_true rfl)
set_option maxHeartbeats 4000000 in
set_option maxRecDepth 100000 in
theorem c_makeTransfer (l : Launch) (dC : Nat → ClassId) (dI : Nat → Nat → Nat) (ad : Nat → Nat) (cI cJ : ClassId) (n tc : Nat) (ki ra : Nat → Int32) (po se : Nat → Int64) (bc : Nat → Int32) (bs op : Nat → Int64) (pr pe : Nat → Int32) (pm : Nat → Int64) (sz : Nat) (k i j : Nat) (hi : i < n) (hj : j < n) (hn : n ≤ 15) (hk : k < 14) : Met l y_B_makeTransfer (.code y_B_makeTransfer b_B_makeTransfer 6 none :: wAll) ({ frames := 1, cells := 0, slots := 0, locals := 23 } : Room) (mu_P [.ref (ad 0), .int (nI k), .int (nI i), .int (nI j)] (dC, dI) vwCl [(cI, .int), (cJ, .long)] (cb_w ad cI cJ n tc ki ra po se bc bs op pr pe pm) sz) (va_Qv (fun _ : Unit => True) (mu_B (dC, dI) vwCl [(cI, .int), (cJ, .long)] (va_A (cb_w ad cI cJ n tc ki ra po se bc bs op pr pe pm) sz) (cb_w ad cI cJ n tc ki ra po se bc bs (aft op i j) (upd pr k (nI i)) (upd pe k (nI j)) (vp_updL pm k (pay op i j)))) (va_A (cb_w ad cI cJ n tc ki ra po se bc bs op pr pe pm) sz)) 0 0 (va_A (cb_w ad cI cJ n tc ki ra po se bc bs op pr pe pm) sz) := by
  refine Met.ofW (cc := b_B_makeTransfer) (maxL := 6) (ret := none) (by decide) rfl ?_
  intro p e s m args below meth c s₁ B hml hv
  obtain ⟨rfl, hsz, hP, hK, hD0⟩ := hv
  have hx := B.exec
  have hb := B.bytes
  have hr := B.returns
  have hts0 := atoms_spec (ws := (.code y_B_makeTransfer b_B_makeTransfer 6 none :: wAll)) B.pre
  have hts := hts_all hts0
  have hown : s.vm.findClass "ClearingBooks" = some m.cls := findClass_of_methodNamed B.named
  have hlocks := B.notSynchronized
  subst hsz
  have hD := hD0.self (sz := s.heap.size)
  generalize hAe : va_A (cb_w ad cI cJ n tc ki ra po se bc bs op pr pe pm) s.heap.size = A at hD ⊢
  have hA : ∀ q : Nat, s.heap.size ≤ q → A q := fun q h => by rw [← hAe]; exact Or.inr h
  have hS : va_S A s.heap s.heap [] := va_S.rf
  have hl := lv_entry ([.ref (ad 0), .int (nI k), .int (nI i), .int (nI j)]) (n := 6) (Nat.le_of_ble_eq_true rfl)
  rw [lg_entry_eq]
  generalize (lg_sl ([.ref (ad 0), .int (nI k), .int (nI i), .int (nI j)]) ++ List.replicate (6 - (lg_sl ([.ref (ad 0), .int (nI k), .int (nI i), .int (nI j)])).length) Slot.unset).toArray = ls at hl ⊢
  have hl : lv_has ls 6 [(0, .ref (ad 0)), (1, .int (nI k)), (2, .int (nI i)), (3, .int (nI j))] := hl
  refine lv_aload_n hx hb d_B_makeTransfer_0 rfl (lv_at hl 0 rfl) ?_
  refine va_get (D := (dC, dI)) (ci := 0) (v := .ref (ad 7)) (C := "ClearingBooks") (T := T_B) (N := 12) hx hb hts wi_B hown hK hP 0 rfl rfl 7 (by decide) (hts _ kw_24) (fun _ h9 => h9) rfl d_B_makeTransfer_1 ?_
  refine lv_iload_n hx hb d_B_makeTransfer_4 rfl (lv_at hl 2 rfl) ?_
  refine xa_laload (f := op) hx hb hK hP 7 1 rfl rfl (j := i) (by omega) (by decide) d_B_makeTransfer_5 ?_
  refine lv_lneg hx hb d_B_makeTransfer_6 ?_
  refine lv_aload_n hx hb d_B_makeTransfer_7 rfl (lv_at hl 0 rfl) ?_
  refine va_get (D := (dC, dI)) (ci := 0) (v := .ref (ad 7)) (C := "ClearingBooks") (T := T_B) (N := 12) hx hb hts wi_B hown hK hP 0 rfl rfl 7 (by decide) (hts _ kw_24) (fun _ h9 => h9) rfl d_B_makeTransfer_8 ?_
  refine lv_iload_n hx hb d_B_makeTransfer_11 rfl (lv_at hl 3 rfl) ?_
  refine xa_laload (f := op) hx hb hK hP 7 1 rfl rfl (j := j) (by omega) (by decide) d_B_makeTransfer_12 ?_
  refine va_mmin_long hx hb (by rw [hml]; exact hl.1.symm) hown (hts _ kw_76) (hts _ kw_77) (hts _ kw_8) (hts _ kw_78) (Nat.le_of_ble_eq_true rfl) (Nat.le_of_ble_eq_true rfl) (Nat.le_of_ble_eq_true rfl) (Nat.le_of_ble_eq_true rfl) d_B_makeTransfer_13 ?_
  refine W.eq (g2 := F0 m 16 ls [.long (pay op i j)]) rfl ?_
  refine lv_lstore (lv' := [(4, .long (pay op i j)), (0, .ref (ad 0)), (1, .int (nI k)), (2, .int (nI i)), (3, .int (nI j))]) hx hb d_B_makeTransfer_16 hl (by decide) rfl (fun ls hl => ?_)
  refine lv_aload_n hx hb d_B_makeTransfer_18 rfl (lv_at hl 1 rfl) ?_
  refine va_get (D := (dC, dI)) (ci := 0) (v := .ref (ad 7)) (C := "ClearingBooks") (T := T_B) (N := 12) hx hb hts wi_B hown hK hP 0 rfl rfl 7 (by decide) (hts _ kw_24) (fun _ h9 => h9) rfl d_B_makeTransfer_19 ?_
  refine lv_iload_n hx hb d_B_makeTransfer_22 rfl (lv_at hl 3 rfl) ?_
  refine lv_dup2_11 hx hb d_B_makeTransfer_23 rfl rfl ?_
  refine xa_laload (f := op) hx hb hK hP 7 1 rfl rfl (j := i) (by omega) (by decide) d_B_makeTransfer_24 ?_
  refine lv_lload hx hb d_B_makeTransfer_25 (lv_at hl 0 rfl) ?_
  refine lv_ladd hx hb d_B_makeTransfer_27 ?_
  refine xa_lastore (f := op) (x := (op i) + (pay op i j)) hx hb hK hP hD hS 7 1 rfl rfl (j := i) (by omega) (by decide) d_B_makeTransfer_28 (fun H locs hP hD hS => ?_)
  have hP : va_P (dC, dI) vwCl (cb_w ad cI cJ n tc ki ra po se bc bs (vp_updL op i ((op i) + (pay op i j))) pr pe pm) H := hP
  have hD : va_D A (cb_w ad cI cJ n tc ki ra po se bc bs (vp_updL op i ((op i) + (pay op i j))) pr pe pm) := hD
  refine lv_aload_n hx hb d_B_makeTransfer_29 rfl (lv_at hl 1 rfl) ?_
  refine va_get (D := (dC, dI)) (ci := 0) (v := .ref (ad 7)) (C := "ClearingBooks") (T := T_B) (N := 12) hx hb hts wi_B hown hK hP 0 rfl rfl 7 (by decide) (hts _ kw_24) (fun _ h9 => h9) rfl d_B_makeTransfer_30 ?_
  refine lv_iload_n hx hb d_B_makeTransfer_33 rfl (lv_at hl 4 rfl) ?_
  refine lv_dup2_11 hx hb d_B_makeTransfer_34 rfl rfl ?_
  refine xa_laload (f := vp_updL op i ((op i) + (pay op i j))) hx hb hK hP 7 1 rfl rfl (j := j) (by omega) (by decide) d_B_makeTransfer_35 ?_
  refine lv_lload hx hb d_B_makeTransfer_36 (lv_at hl 0 rfl) ?_
  refine lv_lsub hx hb d_B_makeTransfer_38 ?_
  refine xa_lastore (f := vp_updL op i ((op i) + (pay op i j))) (x := ((vp_updL op i ((op i) + (pay op i j))) j) - (pay op i j)) hx hb hK hP hD hS 7 1 rfl rfl (j := j) (by omega) (by decide) d_B_makeTransfer_39 (fun H locs hP hD hS => ?_)
  have hP : va_P (dC, dI) vwCl (cb_w ad cI cJ n tc ki ra po se bc bs (vp_updL (vp_updL op i ((op i) + (pay op i j))) j (((vp_updL op i ((op i) + (pay op i j))) j) - (pay op i j))) pr pe pm) H := hP
  have hD : va_D A (cb_w ad cI cJ n tc ki ra po se bc bs (vp_updL (vp_updL op i ((op i) + (pay op i j))) j (((vp_updL op i ((op i) + (pay op i j))) j) - (pay op i j))) pr pe pm) := hD
  refine lv_aload_n hx hb d_B_makeTransfer_40 rfl (lv_at hl 1 rfl) ?_
  refine va_get (D := (dC, dI)) (ci := 0) (v := .ref (ad 8)) (C := "ClearingBooks") (T := T_B) (N := 12) hx hb hts wi_B hown hK hP 0 rfl rfl 9 (by decide) (hts _ kw_26) (fun _ h9 => h9) rfl d_B_makeTransfer_41 ?_
  refine lv_iload_n hx hb d_B_makeTransfer_44 rfl (lv_at hl 2 rfl) ?_
  refine lv_iload_n hx hb d_B_makeTransfer_45 rfl (lv_at hl 3 rfl) ?_
  refine xa_iastore (f := pr) (x := nI i) hx hb hK hP hD hS 8 0 rfl rfl (j := k) (by omega) (by decide) d_B_makeTransfer_46 (fun H locs hP hD hS => ?_)
  have hP : va_P (dC, dI) vwCl (cb_w ad cI cJ n tc ki ra po se bc bs (vp_updL (vp_updL op i ((op i) + (pay op i j))) j (((vp_updL op i ((op i) + (pay op i j))) j) - (pay op i j))) (upd pr k (nI i)) pe pm) H := hP
  have hD : va_D A (cb_w ad cI cJ n tc ki ra po se bc bs (vp_updL (vp_updL op i ((op i) + (pay op i j))) j (((vp_updL op i ((op i) + (pay op i j))) j) - (pay op i j))) (upd pr k (nI i)) pe pm) := hD
  refine lv_aload_n hx hb d_B_makeTransfer_47 rfl (lv_at hl 1 rfl) ?_
  refine va_get (D := (dC, dI)) (ci := 0) (v := .ref (ad 9)) (C := "ClearingBooks") (T := T_B) (N := 12) hx hb hts wi_B hown hK hP 0 rfl rfl 10 (by decide) (hts _ kw_27) (fun _ h9 => h9) rfl d_B_makeTransfer_48 ?_
  refine lv_iload_n hx hb d_B_makeTransfer_51 rfl (lv_at hl 2 rfl) ?_
  refine lv_iload_n hx hb d_B_makeTransfer_52 rfl (lv_at hl 4 rfl) ?_
  refine xa_iastore (f := pe) (x := nI j) hx hb hK hP hD hS 9 0 rfl rfl (j := k) (by omega) (by decide) d_B_makeTransfer_53 (fun H locs hP hD hS => ?_)
  have hP : va_P (dC, dI) vwCl (cb_w ad cI cJ n tc ki ra po se bc bs (vp_updL (vp_updL op i ((op i) + (pay op i j))) j (((vp_updL op i ((op i) + (pay op i j))) j) - (pay op i j))) (upd pr k (nI i)) (upd pe k (nI j)) pm) H := hP
  have hD : va_D A (cb_w ad cI cJ n tc ki ra po se bc bs (vp_updL (vp_updL op i ((op i) + (pay op i j))) j (((vp_updL op i ((op i) + (pay op i j))) j) - (pay op i j))) (upd pr k (nI i)) (upd pe k (nI j)) pm) := hD
  refine lv_aload_n hx hb d_B_makeTransfer_54 rfl (lv_at hl 1 rfl) ?_
  refine va_get (D := (dC, dI)) (ci := 0) (v := .ref (ad 10)) (C := "ClearingBooks") (T := T_B) (N := 12) hx hb hts wi_B hown hK hP 0 rfl rfl 11 (by decide) (hts _ kw_28) (fun _ h9 => h9) rfl d_B_makeTransfer_55 ?_
  refine lv_iload_n hx hb d_B_makeTransfer_58 rfl (lv_at hl 2 rfl) ?_
  refine lv_lload hx hb d_B_makeTransfer_59 (lv_at hl 0 rfl) ?_
  refine xa_lastore (f := pm) (x := pay op i j) hx hb hK hP hD hS 10 1 rfl rfl (j := k) (by omega) (by decide) d_B_makeTransfer_61 (fun H locs hP hD hS => ?_)
  have hP : va_P (dC, dI) vwCl (cb_w ad cI cJ n tc ki ra po se bc bs (vp_updL (vp_updL op i ((op i) + (pay op i j))) j (((vp_updL op i ((op i) + (pay op i j))) j) - (pay op i j))) (upd pr k (nI i)) (upd pe k (nI j)) (vp_updL pm k (pay op i j))) H := hP
  have hD : va_D A (cb_w ad cI cJ n tc ki ra po se bc bs (vp_updL (vp_updL op i ((op i) + (pay op i j))) j (((vp_updL op i ((op i) + (pay op i j))) j) - (pay op i j))) (upd pr k (nI i)) (upd pe k (nI j)) (vp_updL pm k (pay op i j))) := hD
  exact W.vret hx hb hr (fun t ht hW => ⟨⟨(), rfl, trivial, by rw [ht]; exact hP, va_K.moved hW.alike hK, hD⟩, hS.F ht⟩) hS.2.2 d_B_makeTransfer_62
set_option maxHeartbeats 4000000 in
set_option maxRecDepth 100000 in
theorem c_makeTransfers (l : Launch) (dC : Nat → ClassId) (dI : Nat → Nat → Nat) (ad : Nat → Nat) (cI cJ : ClassId) (n tc : Nat) (ki ra : Nat → Int32) (po se : Nat → Int64) (bc : Nat → Int32) (bs op : Nat → Int64) (pr pe : Nat → Int32) (pm : Nat → Int64) (sz : Nat) (h0 : 1 ≤ n) (hn : n ≤ 15) : Met l y_B_makeTransfers (.code y_B_makeTransfers b_B_makeTransfers 3 none :: wAll) ({ frames := 2, cells := 0, slots := 0, locals := 48 } : Room) (mu_P [.ref (ad 0)] (dC, dI) vwCl [(cI, .int), (cJ, .long)] (cb_w ad cI cJ n tc ki ra po se bc bs op pr pe pm) sz) (va_Qv (fun _ : Unit => True) (mu_B (dC, dI) vwCl [(cI, .int), (cJ, .long)] (va_A (cb_w ad cI cJ n tc ki ra po se bc bs op pr pe pm) sz) (cb_w ad cI cJ n ((trs n 14 (0, op, pr, pe, pm)).1) ki ra po se bc bs ((trs n 14 (0, op, pr, pe, pm)).2.1) ((trs n 14 (0, op, pr, pe, pm)).2.2.1) ((trs n 14 (0, op, pr, pe, pm)).2.2.2.1) ((trs n 14 (0, op, pr, pe, pm)).2.2.2.2))) (va_A (cb_w ad cI cJ n tc ki ra po se bc bs op pr pe pm) sz)) 0 0 (va_A (cb_w ad cI cJ n tc ki ra po se bc bs op pr pe pm) sz) := by
  refine Met.ofW (cc := b_B_makeTransfers) (maxL := 3) (ret := none) (by decide) rfl ?_
  intro p e s m args below meth c s₁ B hml hv
  obtain ⟨rfl, hsz, hP, hK, hD0⟩ := hv
  have hx := B.exec
  have hb := B.bytes
  have hr := B.returns
  have hts0 := atoms_spec (ws := (.code y_B_makeTransfers b_B_makeTransfers 3 none :: wAll)) B.pre
  have hts := hts_all hts0
  have hown : s.vm.findClass "ClearingBooks" = some m.cls := findClass_of_methodNamed B.named
  have hlocks := B.notSynchronized
  subst hsz
  have hD := hD0.self (sz := s.heap.size)
  generalize hAe : va_A (cb_w ad cI cJ n tc ki ra po se bc bs op pr pe pm) s.heap.size = A at hD ⊢
  have hA : ∀ q : Nat, s.heap.size ≤ q → A q := fun q h => by rw [← hAe]; exact Or.inr h
  have hS : va_S A s.heap s.heap [] := va_S.rf
  have hl := lv_entry ([.ref (ad 0)]) (n := 3) (Nat.le_of_ble_eq_true rfl)
  rw [lg_entry_eq]
  generalize (lg_sl ([.ref (ad 0)]) ++ List.replicate (3 - (lg_sl ([.ref (ad 0)])).length) Slot.unset).toArray = ls at hl ⊢
  have hl : lv_has ls 3 [(0, .ref (ad 0))] := hl
  refine lv_aload_n hx hb d_B_makeTransfers_0 rfl (lv_at hl 0 rfl) ?_
  refine lv_iconst (v := nI 0) hx hb d_B_makeTransfers_1 (by decide) ?_
  refine va_put (D := (dC, dI)) (ci := 0) (v := .int (nI 0)) (ty := .int) (C := "ClearingBooks") (T := T_B) (N := 12) hx hb hts wi_B ty_B tyok_B nm_B hown hK hP hD hS 0 rfl rfl 8 (by decide) (hts _ kw_25) (fun _ h9 => h9) rfl (by decide +kernel) rfl rfl (Nat.le_of_ble_eq_true rfl) d_B_makeTransfers_2 (fun H locs hP hD hS => ?_)
  have hP : va_P (dC, dI) vwCl (cb_w ad cI cJ n 0 ki ra po se bc bs op pr pe pm) H := hP
  have hD : va_D A (cb_w ad cI cJ n 0 ki ra po se bc bs op pr pe pm) := hD
  refine lv_iconst (v := nI 0) hx hb d_B_makeTransfers_5 (by decide) ?_
  refine lv_istore_n (lv' := [(1, .int (nI 0)), (0, .ref (ad 0))]) hx hb d_B_makeTransfers_6 rfl hl (by decide) rfl (fun ls hl => ?_)
  have loop : ∀ (k : Nat) (t : TT) (H : Heap) (locs : List Loc) (ls : Array Slot), t.1 + k = 14 → trs n k t = (trs n 14 (0, op, pr, pe, pm)) → va_P (dC, dI) vwCl (cb_w ad cI cJ n t.1 ki ra po se bc bs t.2.1 t.2.2.1 t.2.2.2.1 t.2.2.2.2) H → va_D A (cb_w ad cI cJ n t.1 ki ra po se bc bs t.2.1 t.2.2.1 t.2.2.2.1 t.2.2.2.2) → va_S A s.heap H locs → lv_has ls 3 [(0, .ref (ad 0)), (1, .int (nI t.1))] → W p l e (headSpec (.code y_B_makeTransfers b_B_makeTransfers 3 none :: wAll) ({ frames := 2, cells := 0, slots := 0, locals := 48 } : Room)).room s m ([.ref (ad 0)] : List Value).toArray below meth c H locs 0 0 (MQ below (va_Qv (fun _ : Unit => True) (mu_B (dC, dI) vwCl [(cI, .int), (cJ, .long)] A (cb_w ad cI cJ n ((trs n 14 (0, op, pr, pe, pm)).1) ki ra po se bc bs ((trs n 14 (0, op, pr, pe, pm)).2.1) ((trs n 14 (0, op, pr, pe, pm)).2.2.1) ((trs n 14 (0, op, pr, pe, pm)).2.2.2.1) ((trs n 14 (0, op, pr, pe, pm)).2.2.2.2))) A) ([.ref (ad 0)] : List Value).toArray s 0 0 A) (F0 m 7 ls []) := by
    intro k
    induction k with
    | zero =>
      intro t H locs ls hk hF hP hD hS hl
      replace hF : t = (trs n 14 (0, op, pr, pe, pm)) := hF
      refine lv_iload_n hx hb d_B_makeTransfers_7 rfl (lv_at hl 1 rfl) ?_
      refine lv_bipush (v := nI 14) hx hb d_B_makeTransfers_8 (by decide) ?_
      refine lv_icmp_ge (tgt := 53) hx hb d_B_makeTransfers_10 (by decide) (fun c51 => ?_) (fun c51 => ?_)
      · replace c51 := (nI_leI (by omega) (by omega)).mp c51
        exact W.vret hx hb hr (fun t ht hW => ⟨⟨(), rfl, trivial, by rw [ht]; exact by rw [← hF]; exact hP, va_K.moved hW.alike hK, by rw [← hF]; exact hD⟩, hS.F ht⟩) hS.2.2 d_B_makeTransfers_53
      · replace c51 := mt (nI_leI (by omega) (by omega)).mpr c51
        exfalso; omega
    | succ k ih =>
      intro t H locs ls hk hF hP hD hS hl
      refine lv_iload_n hx hb d_B_makeTransfers_7 rfl (lv_at hl 1 rfl) ?_
      refine lv_bipush (v := nI 14) hx hb d_B_makeTransfers_8 (by decide) ?_
      refine lv_icmp_ge (tgt := 53) hx hb d_B_makeTransfers_10 (by decide) (fun c51 => ?_) (fun c51 => ?_)
      · replace c51 := (nI_leI (by omega) (by omega)).mp c51
        exfalso; omega
      · replace c51 := mt (nI_leI (by omega) (by omega)).mpr c51
        have h7 := am_le t.2.1 (n - 1)
        have h8 := ax_le t.2.1 (n - 1)
        refine lv_aload_n hx hb d_B_makeTransfers_13 rfl (lv_at hl 0 rfl) ?_
        refine ro_call (va_runV (As := []) (rest := []) ⟨hx, hb, hml, hown, hts⟩ (c_leastOpen l dC dI ad cI cJ n t.1 ki ra po se bc bs t.2.1 t.2.2.1 t.2.2.2.1 t.2.2.2.2 h0 hn) (cwV 0 hts (wAll_v kw_64 kw_66 ks_1 kw_1 kw_67) rfl rfl rfl (by decide +kernel) ⟨Nat.le_of_ble_eq_true rfl, Nat.le_of_ble_eq_true rfl⟩) (ro_preV bl_tt hK hP (ci := 0) (q0 := 0) rfl rfl (fun _ _ _ => trivial)) rfl rfl hl.1 rfl (lv_room (Nat.le_of_ble_eq_true rfl)) d_B_makeTransfers_14 ⟨Nat.le_of_ble_eq_true rfl, Nat.le_of_ble_eq_true rfl⟩) ?_
        refine W.eq (g2 := F0 m 17 ls [.int (nI (am t.2.1 (n - 1)))]) rfl ?_
        refine lv_istore_n (lv' := [(2, .int (nI (am t.2.1 (n - 1)))), (0, .ref (ad 0)), (1, .int (nI t.1))]) hx hb d_B_makeTransfers_17 rfl hl (by decide) rfl (fun ls hl => ?_)
        refine lv_aload_n hx hb d_B_makeTransfers_18 rfl (lv_at hl 1 rfl) ?_
        refine va_get (D := (dC, dI)) (ci := 0) (v := .ref (ad 7)) (C := "ClearingBooks") (T := T_B) (N := 12) hx hb hts wi_B hown hK hP 0 rfl rfl 7 (by decide) (hts _ kw_24) (fun _ h9 => h9) rfl d_B_makeTransfers_19 ?_
        refine lv_iload_n hx hb d_B_makeTransfers_22 rfl (lv_at hl 0 rfl) ?_
        refine xa_laload (f := t.2.1) hx hb hK hP 7 1 rfl rfl (j := am t.2.1 (n - 1)) (by omega) (by decide) d_B_makeTransfers_23 ?_
        refine lv_lconst (v := 0) hx hb d_B_makeTransfers_24 (by decide) ?_
        refine W.lcmp hx hb d_B_makeTransfers_25 ?_
        refine lv_if_lt (tgt := 30) hx hb d_B_makeTransfers_26 (by decide) (fun c52 => ?_) (fun c52 => ?_)
        · replace c52 := (lg_cmp_lt _ _).mp c52
          replace hF : trs n k (tr1 n t) = (trs n 14 (0, op, pr, pe, pm)) := by rw [← hF, trs, if_neg (Int64.not_le.mpr c52)]
          refine lv_aload_n hx hb d_B_makeTransfers_30 rfl (lv_at hl 1 rfl) ?_
          refine lv_iload_n hx hb d_B_makeTransfers_31 rfl (lv_at hl 2 rfl) ?_
          refine lv_iload_n hx hb d_B_makeTransfers_32 rfl (lv_at hl 0 rfl) ?_
          refine lv_aload_n hx hb d_B_makeTransfers_33 rfl (lv_at hl 1 rfl) ?_
          refine ro_call (va_runV (As := []) (rest := [.int (nI (am t.2.1 (n - 1))), .int (nI t.1), .ref (ad 0)]) ⟨hx, hb, hml, hown, hts⟩ (c_greatestOpen l dC dI ad cI cJ n t.1 ki ra po se bc bs t.2.1 t.2.2.1 t.2.2.2.1 t.2.2.2.2 h0 hn) (cwV 0 hts (wAll_v kw_68 kw_70 ks_2 kw_1 kw_71) rfl rfl rfl (by decide +kernel) ⟨Nat.le_of_ble_eq_true rfl, Nat.le_of_ble_eq_true rfl⟩) (ro_preV bl_tt hK hP (ci := 0) (q0 := 0) rfl rfl (fun _ _ _ => trivial)) rfl rfl hl.1 rfl (lv_room (Nat.le_of_ble_eq_true rfl)) d_B_makeTransfers_34 ⟨Nat.le_of_ble_eq_true rfl, Nat.le_of_ble_eq_true rfl⟩) ?_
          refine W.eq (g2 := F0 m 37 ls [.int (nI (ax t.2.1 (n - 1))), .int (nI (am t.2.1 (n - 1))), .int (nI t.1), .ref (ad 0)]) rfl ?_
          refine mu_callv (va_runV (As := [.int (nI t.1), .int (nI (am t.2.1 (n - 1))), .int (nI (ax t.2.1 (n - 1)))]) (rest := []) ⟨hx, hb, hml, hown, hts⟩ (c_makeTransfer l dC dI ad cI cJ n t.1 ki ra po se bc bs t.2.1 t.2.2.1 t.2.2.2.1 t.2.2.2.2 _ t.1 (am t.2.1 (n - 1)) (ax t.2.1 (n - 1)) (by omega) (by omega) hn (by omega)) (cwV 3 hts (wAll_v kw_72 kw_74 ks_3 kw_1 kw_75) rfl rfl rfl (by decide +kernel) ⟨Nat.le_of_ble_eq_true rfl, Nat.le_of_ble_eq_true rfl⟩) (mu_preV hK hP hD (ci := 0) (q0 := 0) rfl rfl) rfl rfl hl.1 rfl (lv_room (Nat.le_of_ble_eq_true rfl)) d_B_makeTransfers_37 ⟨Nat.le_of_ble_eq_true rfl, Nat.le_of_ble_eq_true rfl⟩) hD hS hA (fun H locs hP hD hS => ?_)
          have hP : va_P (dC, dI) vwCl (cb_w ad cI cJ n t.1 ki ra po se bc bs ((tr1 n t).2.1) ((tr1 n t).2.2.1) ((tr1 n t).2.2.2.1) ((tr1 n t).2.2.2.2)) H := hP
          have hD : va_D A (cb_w ad cI cJ n t.1 ki ra po se bc bs ((tr1 n t).2.1) ((tr1 n t).2.2.1) ((tr1 n t).2.2.2.1) ((tr1 n t).2.2.2.2)) := hD
          refine lv_aload_n hx hb d_B_makeTransfers_40 rfl (lv_at hl 1 rfl) ?_
          refine lv_iload_n hx hb d_B_makeTransfers_41 rfl (lv_at hl 2 rfl) ?_
          refine lv_iconst (v := nI 1) hx hb d_B_makeTransfers_42 (by decide) ?_
          refine t_iadd hx hb d_B_makeTransfers_43 (v := nI (t.1 + 1)) (nI_add t.1 1) ?_
          refine va_put (D := (dC, dI)) (ci := 0) (v := .int (nI (t.1 + 1))) (ty := .int) (C := "ClearingBooks") (T := T_B) (N := 12) hx hb hts wi_B ty_B tyok_B nm_B hown hK hP hD hS 0 rfl rfl 8 (by decide) (hts _ kw_25) (fun _ h9 => h9) rfl (by decide +kernel) rfl rfl (Nat.le_of_ble_eq_true rfl) d_B_makeTransfers_44 (fun H locs hP hD hS => ?_)
          have hP : va_P (dC, dI) vwCl (cb_w ad cI cJ n (t.1 + 1) ki ra po se bc bs ((tr1 n t).2.1) ((tr1 n t).2.2.1) ((tr1 n t).2.2.2.1) ((tr1 n t).2.2.2.2)) H := hP
          have hD : va_D A (cb_w ad cI cJ n (t.1 + 1) ki ra po se bc bs ((tr1 n t).2.1) ((tr1 n t).2.2.1) ((tr1 n t).2.2.2.1) ((tr1 n t).2.2.2.2)) := hD
          refine lv_iinc (v := nI (t.1 + 1)) (lv' := [(1, .int (nI (t.1 + 1))), (2, .int (nI (am t.2.1 (n - 1)))), (0, .ref (ad 0))]) hx hb d_B_makeTransfers_47 hl (k := 2) rfl (nI_1 t.1) (by decide) rfl (fun ls hl => ?_)
          refine lv_goto (tgt := 7) hx hb d_B_makeTransfers_50 (by decide) ?_
          exact ih (tr1 n t) H locs ls (by show t.1 + 1 + k = 14; omega) hF hP hD hS (lv_sub (l' := [(0, .ref (ad 0)), (1, .int (nI (t.1 + 1)))]) hl [2, 0] rfl)
        · replace c52 := mt (lg_cmp_lt _ _).mpr c52
          replace hF : t = (trs n 14 (0, op, pr, pe, pm)) := by rw [← hF, trs, if_pos (Int64.not_lt.mp c52)]
          exact W.vret hx hb hr (fun t ht hW => ⟨⟨(), rfl, trivial, by rw [ht]; exact by rw [← hF]; exact hP, va_K.moved hW.alike hK, by rw [← hF]; exact hD⟩, hS.F ht⟩) hS.2.2 d_B_makeTransfers_29
  exact loop 14 (0, op, pr, pe, pm) H locs ls rfl rfl hP hD hS (lv_sub (l' := [(0, .ref (ad 0)), (1, .int (nI 0))]) hl [1, 0] rfl)
set_option maxHeartbeats 4000000 in
set_option maxRecDepth 100000 in
theorem c_settle (l : Launch) (dC : Nat → ClassId) (dI : Nat → Nat → Nat) (ad : Nat → Nat) (cI cJ : ClassId) (n tc : Nat) (ki ra : Nat → Int32) (po se : Nat → Int64) (bc : Nat → Int32) (bs op : Nat → Int64) (pr pe : Nat → Int32) (pm : Nat → Int64) (sz : Nat) (h0 : 1 ≤ n) (hn : n ≤ 15) : Met l y_B_settle (.code y_B_settle b_B_settle 2 (some .int) :: wAll) ({ frames := 3, cells := 0, slots := 0, locals := 70 } : Room) (mu_P [.ref (ad 0)] (dC, dI) vwCl [(cI, .int), (cJ, .long)] (cb_w ad cI cJ n tc ki ra po se bc bs op pr pe pm) sz) (va_Qi (fun (z : Int32) (_ : Unit) => z = nI (trs n 14 (0, cpy n po op, pr, pe, pm)).1) (mu_B (dC, dI) vwCl [(cI, .int), (cJ, .long)] (va_A (cb_w ad cI cJ n tc ki ra po se bc bs op pr pe pm) sz) (cb_w ad cI cJ n ((trs n 14 (0, cpy n po op, pr, pe, pm)).1) ki ra (cpy n (fun _ => 0) po) (cpy n (fun q => se q + po q) se) bc bs ((trs n 14 (0, cpy n po op, pr, pe, pm)).2.1) ((trs n 14 (0, cpy n po op, pr, pe, pm)).2.2.1) ((trs n 14 (0, cpy n po op, pr, pe, pm)).2.2.2.1) ((trs n 14 (0, cpy n po op, pr, pe, pm)).2.2.2.2))) (va_A (cb_w ad cI cJ n tc ki ra po se bc bs op pr pe pm) sz)) 0 0 (va_A (cb_w ad cI cJ n tc ki ra po se bc bs op pr pe pm) sz) := by
  refine Met.ofW (cc := b_B_settle) (maxL := 2) (ret := (some .int)) (by decide) rfl ?_
  intro p e s m args below meth c s₁ B hml hv
  obtain ⟨rfl, hsz, hP, hK, hD0⟩ := hv
  have hx := B.exec
  have hb := B.bytes
  have hr := B.returns
  have hts0 := atoms_spec (ws := (.code y_B_settle b_B_settle 2 (some .int) :: wAll)) B.pre
  have hts := hts_all hts0
  have hown : s.vm.findClass "ClearingBooks" = some m.cls := findClass_of_methodNamed B.named
  have hlocks := B.notSynchronized
  subst hsz
  have hD := hD0.self (sz := s.heap.size)
  generalize hAe : va_A (cb_w ad cI cJ n tc ki ra po se bc bs op pr pe pm) s.heap.size = A at hD ⊢
  have hA : ∀ q : Nat, s.heap.size ≤ q → A q := fun q h => by rw [← hAe]; exact Or.inr h
  have hS : va_S A s.heap s.heap [] := va_S.rf
  have hl := lv_entry ([.ref (ad 0)]) (n := 2) (Nat.le_of_ble_eq_true rfl)
  rw [lg_entry_eq]
  generalize (lg_sl ([.ref (ad 0)]) ++ List.replicate (2 - (lg_sl ([.ref (ad 0)])).length) Slot.unset).toArray = ls at hl ⊢
  have hl : lv_has ls 2 [(0, .ref (ad 0))] := hl
  refine lv_iconst (v := nI 0) hx hb d_B_settle_0 (by decide) ?_
  refine lv_istore_n (lv' := [(1, .int (nI 0)), (0, .ref (ad 0))]) hx hb d_B_settle_1 rfl hl (by decide) rfl (fun ls hl => ?_)
  have loop : ∀ (k i : Nat) (H : Heap) (locs : List Loc) (ls : Array Slot), i + k = n → va_P (dC, dI) vwCl (cb_w ad cI cJ n tc ki ra (cpy i (fun _ => 0) po) (cpy i (fun q => se q + po q) se) bc bs (cpy i po op) pr pe pm) H → va_D A (cb_w ad cI cJ n tc ki ra (cpy i (fun _ => 0) po) (cpy i (fun q => se q + po q) se) bc bs (cpy i po op) pr pe pm) → va_S A s.heap H locs → lv_has ls 2 [(0, .ref (ad 0)), (1, .int (nI i))] → W p l e (headSpec (.code y_B_settle b_B_settle 2 (some .int) :: wAll) ({ frames := 3, cells := 0, slots := 0, locals := 70 } : Room)).room s m ([.ref (ad 0)] : List Value).toArray below meth c H locs 0 0 (MQ below (va_Qi (fun (z : Int32) (_ : Unit) => z = nI (trs n 14 (0, cpy n po op, pr, pe, pm)).1) (mu_B (dC, dI) vwCl [(cI, .int), (cJ, .long)] A (cb_w ad cI cJ n ((trs n 14 (0, cpy n po op, pr, pe, pm)).1) ki ra (cpy n (fun _ => 0) po) (cpy n (fun q => se q + po q) se) bc bs ((trs n 14 (0, cpy n po op, pr, pe, pm)).2.1) ((trs n 14 (0, cpy n po op, pr, pe, pm)).2.2.1) ((trs n 14 (0, cpy n po op, pr, pe, pm)).2.2.2.1) ((trs n 14 (0, cpy n po op, pr, pe, pm)).2.2.2.2))) A) ([.ref (ad 0)] : List Value).toArray s 0 0 A) (F0 m 2 ls []) := by
    intro k
    induction k with
    | zero =>
      intro i H locs ls hi hP hD hS hl
      obtain rfl : i = n := by omega
      refine lv_iload_n hx hb d_B_settle_2 rfl (lv_at hl 1 rfl) ?_
      refine lv_aload_n hx hb d_B_settle_3 rfl (lv_at hl 0 rfl) ?_
      refine va_get (D := (dC, dI)) (ci := 0) (v := .int (nI i)) (C := "ClearingBooks") (T := T_B) (N := 12) hx hb hts wi_B hown hK hP 0 rfl rfl 0 (by decide) (hts _ kw_17) (fun _ h9 => h9) rfl d_B_settle_4 ?_
      refine lv_icmp_ge (tgt := 50) hx hb d_B_settle_7 (by decide) (fun c51 => ?_) (fun c51 => ?_)
      · replace c51 := (nI_leI (by omega) (by omega)).mp c51
        refine lv_aload_n hx hb d_B_settle_50 rfl (lv_at hl 0 rfl) ?_
        refine mu_callv (va_runV (As := []) (rest := []) ⟨hx, hb, hml, hown, hts⟩ (c_makeTransfers l dC dI ad cI cJ i tc ki ra (cpy i (fun _ => 0) po) (cpy i (fun q => se q + po q) se) bc bs (cpy i po op) pr pe pm _ h0 hn) (cwV 0 hts (wAll_v kw_60 kw_62 ks_0 kw_1 kw_63) rfl rfl rfl (by decide +kernel) ⟨Nat.le_of_ble_eq_true rfl, Nat.le_of_ble_eq_true rfl⟩) (mu_preV hK hP hD (ci := 0) (q0 := 0) rfl rfl) rfl rfl hl.1 rfl (lv_room (Nat.le_of_ble_eq_true rfl)) d_B_settle_51 ⟨Nat.le_of_ble_eq_true rfl, Nat.le_of_ble_eq_true rfl⟩) hD hS hA (fun H locs hP hD hS => ?_)
        have hP : va_P (dC, dI) vwCl (cb_w ad cI cJ i ((trs i 14 (0, cpy i po op, pr, pe, pm)).1) ki ra (cpy i (fun _ => 0) po) (cpy i (fun q => se q + po q) se) bc bs ((trs i 14 (0, cpy i po op, pr, pe, pm)).2.1) ((trs i 14 (0, cpy i po op, pr, pe, pm)).2.2.1) ((trs i 14 (0, cpy i po op, pr, pe, pm)).2.2.2.1) ((trs i 14 (0, cpy i po op, pr, pe, pm)).2.2.2.2)) H := hP
        have hD : va_D A (cb_w ad cI cJ i ((trs i 14 (0, cpy i po op, pr, pe, pm)).1) ki ra (cpy i (fun _ => 0) po) (cpy i (fun q => se q + po q) se) bc bs ((trs i 14 (0, cpy i po op, pr, pe, pm)).2.1) ((trs i 14 (0, cpy i po op, pr, pe, pm)).2.2.1) ((trs i 14 (0, cpy i po op, pr, pe, pm)).2.2.2.1) ((trs i 14 (0, cpy i po op, pr, pe, pm)).2.2.2.2)) := hD
        refine lv_aload_n hx hb d_B_settle_54 rfl (lv_at hl 0 rfl) ?_
        refine va_get (D := (dC, dI)) (ci := 0) (v := .int (nI ((trs i 14 (0, cpy i po op, pr, pe, pm)).1))) (C := "ClearingBooks") (T := T_B) (N := 12) hx hb hts wi_B hown hK hP 0 rfl rfl 8 (by decide) (hts _ kw_25) (fun _ h9 => h9) rfl d_B_settle_55 ?_
        exact W.iret (v := nI ((trs i 14 (0, cpy i po op, pr, pe, pm)).1)) hx hb hr (fun t ht hW => ⟨⟨nI ((trs i 14 (0, cpy i po op, pr, pe, pm)).1), (), rfl, rfl, by rw [ht]; exact hP, va_K.moved hW.alike hK, hD⟩, hS.F ht⟩) hS.2.2 d_B_settle_58
      · replace c51 := mt (nI_leI (by omega) (by omega)).mpr c51
        exfalso; omega
    | succ k ih =>
      intro i H locs ls hi hP hD hS hl
      refine lv_iload_n hx hb d_B_settle_2 rfl (lv_at hl 1 rfl) ?_
      refine lv_aload_n hx hb d_B_settle_3 rfl (lv_at hl 0 rfl) ?_
      refine va_get (D := (dC, dI)) (ci := 0) (v := .int (nI n)) (C := "ClearingBooks") (T := T_B) (N := 12) hx hb hts wi_B hown hK hP 0 rfl rfl 0 (by decide) (hts _ kw_17) (fun _ h9 => h9) rfl d_B_settle_4 ?_
      refine lv_icmp_ge (tgt := 50) hx hb d_B_settle_7 (by decide) (fun c51 => ?_) (fun c51 => ?_)
      · replace c51 := (nI_leI (by omega) (by omega)).mp c51
        exfalso; omega
      · replace c51 := mt (nI_leI (by omega) (by omega)).mpr c51
        refine lv_aload_n hx hb d_B_settle_10 rfl (lv_at hl 0 rfl) ?_
        refine va_get (D := (dC, dI)) (ci := 0) (v := .ref (ad 7)) (C := "ClearingBooks") (T := T_B) (N := 12) hx hb hts wi_B hown hK hP 0 rfl rfl 7 (by decide) (hts _ kw_24) (fun _ h9 => h9) rfl d_B_settle_11 ?_
        refine lv_iload_n hx hb d_B_settle_14 rfl (lv_at hl 1 rfl) ?_
        refine lv_aload_n hx hb d_B_settle_15 rfl (lv_at hl 0 rfl) ?_
        refine va_get (D := (dC, dI)) (ci := 0) (v := .ref (ad 3)) (C := "ClearingBooks") (T := T_B) (N := 12) hx hb hts wi_B hown hK hP 0 rfl rfl 3 (by decide) (hts _ kw_20) (fun _ h9 => h9) rfl d_B_settle_16 ?_
        refine lv_iload_n hx hb d_B_settle_19 rfl (lv_at hl 1 rfl) ?_
        refine xa_laload (f := cpy i (fun _ => 0) po) hx hb hK hP 3 1 rfl rfl (j := i) (by omega) (by decide) d_B_settle_20 ?_
        refine xa_lastore (f := cpy i po op) (x := (cpy i (fun _ => 0) po) i) hx hb hK hP hD hS 7 1 rfl rfl (j := i) (by omega) (by decide) d_B_settle_21 (fun H locs hP hD hS => ?_)
        have hP : va_P (dC, dI) vwCl (cb_w ad cI cJ n tc ki ra (cpy i (fun _ => 0) po) (cpy i (fun q => se q + po q) se) bc bs (vp_updL (cpy i po op) i ((cpy i (fun _ => 0) po) i)) pr pe pm) H := hP
        have hD : va_D A (cb_w ad cI cJ n tc ki ra (cpy i (fun _ => 0) po) (cpy i (fun q => se q + po q) se) bc bs (vp_updL (cpy i po op) i ((cpy i (fun _ => 0) po) i)) pr pe pm) := hD
        refine lv_aload_n hx hb d_B_settle_22 rfl (lv_at hl 0 rfl) ?_
        refine va_get (D := (dC, dI)) (ci := 0) (v := .ref (ad 4)) (C := "ClearingBooks") (T := T_B) (N := 12) hx hb hts wi_B hown hK hP 0 rfl rfl 4 (by decide) (hts _ kw_21) (fun _ h9 => h9) rfl d_B_settle_23 ?_
        refine lv_iload_n hx hb d_B_settle_26 rfl (lv_at hl 1 rfl) ?_
        refine lv_dup2_11 hx hb d_B_settle_27 rfl rfl ?_
        refine xa_laload (f := cpy i (fun q => se q + po q) se) hx hb hK hP 4 1 rfl rfl (j := i) (by omega) (by decide) d_B_settle_28 ?_
        refine lv_aload_n hx hb d_B_settle_29 rfl (lv_at hl 0 rfl) ?_
        refine va_get (D := (dC, dI)) (ci := 0) (v := .ref (ad 3)) (C := "ClearingBooks") (T := T_B) (N := 12) hx hb hts wi_B hown hK hP 0 rfl rfl 3 (by decide) (hts _ kw_20) (fun _ h9 => h9) rfl d_B_settle_30 ?_
        refine lv_iload_n hx hb d_B_settle_33 rfl (lv_at hl 1 rfl) ?_
        refine xa_laload (f := cpy i (fun _ => 0) po) hx hb hK hP 3 1 rfl rfl (j := i) (by omega) (by decide) d_B_settle_34 ?_
        refine lv_ladd hx hb d_B_settle_35 ?_
        refine xa_lastore (f := cpy i (fun q => se q + po q) se) (x := ((cpy i (fun q => se q + po q) se) i) + ((cpy i (fun _ => 0) po) i)) hx hb hK hP hD hS 4 1 rfl rfl (j := i) (by omega) (by decide) d_B_settle_36 (fun H locs hP hD hS => ?_)
        have hP : va_P (dC, dI) vwCl (cb_w ad cI cJ n tc ki ra (cpy i (fun _ => 0) po) (vp_updL (cpy i (fun q => se q + po q) se) i (((cpy i (fun q => se q + po q) se) i) + ((cpy i (fun _ => 0) po) i))) bc bs (vp_updL (cpy i po op) i ((cpy i (fun _ => 0) po) i)) pr pe pm) H := hP
        have hD : va_D A (cb_w ad cI cJ n tc ki ra (cpy i (fun _ => 0) po) (vp_updL (cpy i (fun q => se q + po q) se) i (((cpy i (fun q => se q + po q) se) i) + ((cpy i (fun _ => 0) po) i))) bc bs (vp_updL (cpy i po op) i ((cpy i (fun _ => 0) po) i)) pr pe pm) := hD
        refine lv_aload_n hx hb d_B_settle_37 rfl (lv_at hl 0 rfl) ?_
        refine va_get (D := (dC, dI)) (ci := 0) (v := .ref (ad 3)) (C := "ClearingBooks") (T := T_B) (N := 12) hx hb hts wi_B hown hK hP 0 rfl rfl 3 (by decide) (hts _ kw_20) (fun _ h9 => h9) rfl d_B_settle_38 ?_
        refine lv_iload_n hx hb d_B_settle_41 rfl (lv_at hl 1 rfl) ?_
        refine lv_lconst (v := 0) hx hb d_B_settle_42 (by decide) ?_
        refine xa_lastore (f := cpy i (fun _ => 0) po) (x := 0) hx hb hK hP hD hS 3 1 rfl rfl (j := i) (by omega) (by decide) d_B_settle_43 (fun H locs hP hD hS => ?_)
        have hP : va_P (dC, dI) vwCl (cb_w ad cI cJ n tc ki ra (vp_updL (cpy i (fun _ => 0) po) i 0) (vp_updL (cpy i (fun q => se q + po q) se) i (((cpy i (fun q => se q + po q) se) i) + ((cpy i (fun _ => 0) po) i))) bc bs (vp_updL (cpy i po op) i ((cpy i (fun _ => 0) po) i)) pr pe pm) H := hP
        have hD : va_D A (cb_w ad cI cJ n tc ki ra (vp_updL (cpy i (fun _ => 0) po) i 0) (vp_updL (cpy i (fun q => se q + po q) se) i (((cpy i (fun q => se q + po q) se) i) + ((cpy i (fun _ => 0) po) i))) bc bs (vp_updL (cpy i po op) i ((cpy i (fun _ => 0) po) i)) pr pe pm) := hD
        refine lv_iinc (v := nI (i + 1)) (lv' := [(1, .int (nI (i + 1))), (0, .ref (ad 0))]) hx hb d_B_settle_44 hl (k := 1) rfl (nI_1 i) (by decide) rfl (fun ls hl => ?_)
        refine lv_goto (tgt := 2) hx hb d_B_settle_47 (by decide) ?_
        have e_op : vp_updL (cpy i po op) i ((cpy i (fun _ => 0) po) i) = cpy (i + 1) po op := cpy_up (cpy_at i (fun _ => 0) po)
        have e_se : vp_updL (cpy i (fun q => se q + po q) se) i (((cpy i (fun q => se q + po q) se) i) + ((cpy i (fun _ => 0) po) i)) = cpy (i + 1) (fun q => se q + po q) se := cpy_up (by rw [cpy_at, cpy_at])
        have e_po : vp_updL (cpy i (fun _ => 0) po) i 0 = cpy (i + 1) (fun _ => 0) po := cpy_up (rfl)
        rw [e_op, e_se, e_po] at hP hD
        exact ih (i + 1) H locs ls (by omega) hP hD hS (lv_sub hl [1, 0] rfl)
  have z_op := cpy_0 po op
  have z_se := cpy_0 (fun q => se q + po q) se
  have z_po := cpy_0 (fun _ => (0 : Int64)) po
  exact loop n 0 s.heap [] ls (by omega) (by rw [z_op, z_se, z_po]; exact hP) (by rw [z_op, z_se, z_po]; exact hD) hS (lv_sub hl [1, 0] rfl)
