set_option maxHeartbeats 4000000 in
set_option maxRecDepth 100000 in
theorem c_audit (l : Launch) (dC : Nat → ClassId) (dI : Nat → Nat → Nat) (ad : Nat → Nat) (cI cJ : ClassId) (n tc : Nat) (ki ra : Nat → Int32) (po se : Nat → Int64) (bc : Nat → Int32) (bs op : Nat → Int64) (pr pe : Nat → Int32) (pm : Nat → Int64) (hn : n ≤ 15) : Met l y_B_audit (.code y_B_audit b_B_audit 3 (some .int) :: wAll) ({ frames := 1, cells := 0, slots := 0, locals := 24 } : Room) (ro_P [.ref (ad 0)] (dC, dI) vwCl [(cI, .int), (cJ, .long)] (cb_w ad cI cJ n tc ki ra po se bc bs op pr pe pm) (fun _ => True)) (ro_Q (some (.int (nI (zz (sm po n) 2 + zz (sm se n) 1))))) 0 0 (fun _ => False) := by
  refine Met.ofW (cc := b_B_audit) (maxL := 3) (ret := (some .int)) (by decide) rfl ?_
  intro p e s m args below meth c s₁ B hml hv
  obtain ⟨rfl, hP, hK, hB⟩ := hv
  have hx := B.exec
  have hb := B.bytes
  have hr := B.returns
  have hts0 := atoms_spec (ws := (.code y_B_audit b_B_audit 3 (some .int) :: wAll)) B.pre
  have hts := hts_all hts0
  have hown : s.vm.findClass "ClearingBooks" = some m.cls := findClass_of_methodNamed B.named
  have hlocks := B.notSynchronized
  have hl := lv_entry ([.ref (ad 0)]) (n := 3) (Nat.le_of_ble_eq_true rfl)
  rw [lg_entry_eq]
  generalize (lg_sl ([.ref (ad 0)]) ++ List.replicate (3 - (lg_sl ([.ref (ad 0)])).length) Slot.unset).toArray = ls at hl ⊢
  have hl : lv_has ls 3 [(0, .ref (ad 0))] := hl
  refine lv_aload_n hx hb d_B_audit_0 rfl (lv_at hl 0 rfl) ?_
  refine lv_aload_n hx hb d_B_audit_1 rfl (lv_at hl 0 rfl) ?_
  refine va_get (D := (dC, dI)) (ci := 0) (v := .ref (ad 3)) (C := "ClearingBooks") (T := T_B) (N := 12) hx hb hts wi_B hown hK hP 0 rfl rfl 3 (by decide) (hts _ kw_20) (fun _ h9 => h9) rfl d_B_audit_2 ?_
  refine ro_call (va_runV (As := [.ref (ad 3)]) (rest := []) ⟨hx, hb, hml, hown, hts⟩ (c_sumOf_po l dC dI ad cI cJ n tc ki ra po se bc bs op pr pe pm hn) (cwV 1 hts (wAll_v kw_87 kw_89 ks_4 kw_1 kw_90) rfl rfl rfl (by decide +kernel) ⟨Nat.le_of_ble_eq_true rfl, Nat.le_of_ble_eq_true rfl⟩) (ro_preV bl_tt hK hP (ci := 0) (q0 := 0) rfl rfl (fun _ _ _ => trivial)) rfl rfl hl.1 rfl (lv_room (Nat.le_of_ble_eq_true rfl)) d_B_audit_5 ⟨Nat.le_of_ble_eq_true rfl, Nat.le_of_ble_eq_true rfl⟩) ?_
  refine W.eq (g2 := F0 m 8 ls [.long (sm po n)]) rfl ?_
  refine lv_lconst (v := 0) hx hb d_B_audit_8 (by decide) ?_
  refine W.lcmp hx hb d_B_audit_9 ?_
  refine lv_if_eq (tgt := 17) hx hb d_B_audit_10 (by decide) (fun c1 => ?_) (fun c1 => ?_)
  · replace c1 := (lg_cmp_eq _ _).mp c1
    refine lv_iconst (v := nI 0) hx hb d_B_audit_17 (by decide) ?_
    refine lv_istore_n (lv' := [(1, .int (nI 0)), (0, .ref (ad 0))]) hx hb d_B_audit_18 rfl hl (by decide) rfl (fun ls hl => ?_)
    refine lv_aload_n hx hb d_B_audit_19 rfl (lv_at hl 1 rfl) ?_
    refine lv_aload_n hx hb d_B_audit_20 rfl (lv_at hl 1 rfl) ?_
    refine va_get (D := (dC, dI)) (ci := 0) (v := .ref (ad 4)) (C := "ClearingBooks") (T := T_B) (N := 12) hx hb hts wi_B hown hK hP 0 rfl rfl 4 (by decide) (hts _ kw_21) (fun _ h9 => h9) rfl d_B_audit_21 ?_
    refine ro_call (va_runV (As := [.ref (ad 4)]) (rest := []) ⟨hx, hb, hml, hown, hts⟩ (c_sumOf_se l dC dI ad cI cJ n tc ki ra po se bc bs op pr pe pm hn) (cwV 1 hts (wAll_v kw_87 kw_89 ks_4 kw_1 kw_90) rfl rfl rfl (by decide +kernel) ⟨Nat.le_of_ble_eq_true rfl, Nat.le_of_ble_eq_true rfl⟩) (ro_preV bl_tt hK hP (ci := 0) (q0 := 0) rfl rfl (fun _ _ _ => trivial)) rfl rfl hl.1 rfl (lv_room (Nat.le_of_ble_eq_true rfl)) d_B_audit_24 ⟨Nat.le_of_ble_eq_true rfl, Nat.le_of_ble_eq_true rfl⟩) ?_
    refine W.eq (g2 := F0 m 27 ls [.long (sm se n)]) rfl ?_
    refine lv_lconst (v := 0) hx hb d_B_audit_27 (by decide) ?_
    refine W.lcmp hx hb d_B_audit_28 ?_
    refine lv_if_eq (tgt := 36) hx hb d_B_audit_29 (by decide) (fun c2 => ?_) (fun c2 => ?_)
    · replace c2 := (lg_cmp_eq _ _).mp c2
      refine lv_iconst (v := nI 0) hx hb d_B_audit_36 (by decide) ?_
      refine lv_istore_n (lv' := [(2, .int (nI 0)), (1, .int (nI 0)), (0, .ref (ad 0))]) hx hb d_B_audit_37 rfl hl (by decide) rfl (fun ls hl => ?_)
      refine lv_iload_n hx hb d_B_audit_38 rfl (lv_at hl 1 rfl) ?_
      refine lv_iload_n hx hb d_B_audit_39 rfl (lv_at hl 0 rfl) ?_
      refine t_iadd hx hb d_B_audit_40 (v := nI (0 + 0)) (nI_add 0 0) ?_
      exact W.iret (v := nI (0 + 0)) hx hb hr (fun t ht hW => ⟨by simp [zz, *], ht⟩) (fun q hq => by cases hq) d_B_audit_41
    · replace c2 := mt (lg_cmp_eq _ _).mpr c2
      refine lv_iconst (v := nI 1) hx hb d_B_audit_32 (by decide) ?_
      refine lv_goto (tgt := 37) hx hb d_B_audit_33 (by decide) ?_
      refine lv_istore_n (lv' := [(2, .int (nI 1)), (1, .int (nI 0)), (0, .ref (ad 0))]) hx hb d_B_audit_37 rfl hl (by decide) rfl (fun ls hl => ?_)
      refine lv_iload_n hx hb d_B_audit_38 rfl (lv_at hl 1 rfl) ?_
      refine lv_iload_n hx hb d_B_audit_39 rfl (lv_at hl 0 rfl) ?_
      refine t_iadd hx hb d_B_audit_40 (v := nI (0 + 1)) (nI_add 0 1) ?_
      exact W.iret (v := nI (0 + 1)) hx hb hr (fun t ht hW => ⟨by simp [zz, *], ht⟩) (fun q hq => by cases hq) d_B_audit_41
  · replace c1 := mt (lg_cmp_eq _ _).mpr c1
    refine lv_iconst (v := nI 2) hx hb d_B_audit_13 (by decide) ?_
    refine lv_goto (tgt := 18) hx hb d_B_audit_14 (by decide) ?_
    refine lv_istore_n (lv' := [(1, .int (nI 2)), (0, .ref (ad 0))]) hx hb d_B_audit_18 rfl hl (by decide) rfl (fun ls hl => ?_)
    refine lv_aload_n hx hb d_B_audit_19 rfl (lv_at hl 1 rfl) ?_
    refine lv_aload_n hx hb d_B_audit_20 rfl (lv_at hl 1 rfl) ?_
    refine va_get (D := (dC, dI)) (ci := 0) (v := .ref (ad 4)) (C := "ClearingBooks") (T := T_B) (N := 12) hx hb hts wi_B hown hK hP 0 rfl rfl 4 (by decide) (hts _ kw_21) (fun _ h9 => h9) rfl d_B_audit_21 ?_
    refine ro_call (va_runV (As := [.ref (ad 4)]) (rest := []) ⟨hx, hb, hml, hown, hts⟩ (c_sumOf_se l dC dI ad cI cJ n tc ki ra po se bc bs op pr pe pm hn) (cwV 1 hts (wAll_v kw_87 kw_89 ks_4 kw_1 kw_90) rfl rfl rfl (by decide +kernel) ⟨Nat.le_of_ble_eq_true rfl, Nat.le_of_ble_eq_true rfl⟩) (ro_preV bl_tt hK hP (ci := 0) (q0 := 0) rfl rfl (fun _ _ _ => trivial)) rfl rfl hl.1 rfl (lv_room (Nat.le_of_ble_eq_true rfl)) d_B_audit_24 ⟨Nat.le_of_ble_eq_true rfl, Nat.le_of_ble_eq_true rfl⟩) ?_
    refine W.eq (g2 := F0 m 27 ls [.long (sm se n)]) rfl ?_
    refine lv_lconst (v := 0) hx hb d_B_audit_27 (by decide) ?_
    refine W.lcmp hx hb d_B_audit_28 ?_
    refine lv_if_eq (tgt := 36) hx hb d_B_audit_29 (by decide) (fun c3 => ?_) (fun c3 => ?_)
    · replace c3 := (lg_cmp_eq _ _).mp c3
      refine lv_iconst (v := nI 0) hx hb d_B_audit_36 (by decide) ?_
      refine lv_istore_n (lv' := [(2, .int (nI 0)), (1, .int (nI 2)), (0, .ref (ad 0))]) hx hb d_B_audit_37 rfl hl (by decide) rfl (fun ls hl => ?_)
      refine lv_iload_n hx hb d_B_audit_38 rfl (lv_at hl 1 rfl) ?_
      refine lv_iload_n hx hb d_B_audit_39 rfl (lv_at hl 0 rfl) ?_
      refine t_iadd hx hb d_B_audit_40 (v := nI (2 + 0)) (nI_add 2 0) ?_
      exact W.iret (v := nI (2 + 0)) hx hb hr (fun t ht hW => ⟨by simp [zz, *], ht⟩) (fun q hq => by cases hq) d_B_audit_41
    · replace c3 := mt (lg_cmp_eq _ _).mpr c3
      refine lv_iconst (v := nI 1) hx hb d_B_audit_32 (by decide) ?_
      refine lv_goto (tgt := 37) hx hb d_B_audit_33 (by decide) ?_
      refine lv_istore_n (lv' := [(2, .int (nI 1)), (1, .int (nI 2)), (0, .ref (ad 0))]) hx hb d_B_audit_37 rfl hl (by decide) rfl (fun ls hl => ?_)
      refine lv_iload_n hx hb d_B_audit_38 rfl (lv_at hl 1 rfl) ?_
      refine lv_iload_n hx hb d_B_audit_39 rfl (lv_at hl 0 rfl) ?_
      refine t_iadd hx hb d_B_audit_40 (v := nI (2 + 1)) (nI_add 2 1) ?_
      exact W.iret (v := nI (2 + 1)) hx hb hr (fun t ht hW => ⟨by simp [zz, *], ht⟩) (fun q hq => by cases hq) d_B_audit_41
set_option maxHeartbeats 4000000 in
set_option maxRecDepth 100000 in
theorem c_batch_y0 (l : Launch) (dC : Nat → ClassId) (dI : Nat → Nat → Nat) (ad : Nat → Nat) (cI cJ : ClassId) (n tc : Nat) (ki ra : Nat → Int32) (po se : Nat → Int64) (bc : Nat → Int32) (bs op : Nat → Int64) (pr pe : Nat → Int32) (pm : Nat → Int64) (i : Nat) (hji : i < n) (hn : n ≤ 15) (hki : ki i = nI 1) : Met l y_B_batch (.code y_B_batch b_B_batch 3 (some .long) :: wAll) ({ frames := 2, cells := 0, slots := 0, locals := 43 } : Room) (ro_P [.ref (ad 0), .int (nI i), .int (nI 0)] (dC, dI) vwCl [(cI, .int), (cJ, .long)] (cb_w ad cI cJ n tc ki ra po se bc bs op pr pe pm) (fun _ => True)) (ro_Q (some (.long ((bc i).toInt64)))) 0 0 (fun _ => False) := by
  refine Met.ofW (cc := b_B_batch) (maxL := 3) (ret := (some .long)) (by decide) rfl ?_
  intro p e s m args below meth c s₁ B hml hv
  obtain ⟨rfl, hP, hK, hB⟩ := hv
  have hx := B.exec
  have hb := B.bytes
  have hr := B.returns
  have hts0 := atoms_spec (ws := (.code y_B_batch b_B_batch 3 (some .long) :: wAll)) B.pre
  have hts := hts_all hts0
  have hown : s.vm.findClass "ClearingBooks" = some m.cls := findClass_of_methodNamed B.named
  have hlocks := B.notSynchronized
  have hl := lv_entry ([.ref (ad 0), .int (nI i), .int (nI 0)]) (n := 3) (Nat.le_of_ble_eq_true rfl)
  rw [lg_entry_eq]
  generalize (lg_sl ([.ref (ad 0), .int (nI i), .int (nI 0)]) ++ List.replicate (3 - (lg_sl ([.ref (ad 0), .int (nI i), .int (nI 0)])).length) Slot.unset).toArray = ls at hl ⊢
  have hl : lv_has ls 3 [(0, .ref (ad 0)), (1, .int (nI i)), (2, .int (nI 0))] := hl
  refine lv_aload_n hx hb d_B_batch_0 rfl (lv_at hl 0 rfl) ?_
  refine lv_iload_n hx hb d_B_batch_1 rfl (lv_at hl 1 rfl) ?_
  refine lv_iconst (v := nI 1) hx hb d_B_batch_2 (by decide) ?_
  refine ro_call (va_runV (As := [.int (nI i), .int (nI 1)]) (rest := []) ⟨hx, hb, hml, hown, hts⟩ (c_requireKind_y l dC dI ad cI cJ n tc ki ra po se bc bs op pr pe pm i (nI 1) hji hn hki) (cwV 2 hts (wAll_v kw_201 kw_203 ks_7 kw_1 kw_204) rfl rfl rfl (by decide +kernel) ⟨Nat.le_of_ble_eq_true rfl, Nat.le_of_ble_eq_true rfl⟩) (ro_preV bl_tt hK hP (ci := 0) (q0 := 0) rfl rfl (fun _ _ _ => trivial)) rfl rfl hl.1 rfl (lv_room (Nat.le_of_ble_eq_true rfl)) d_B_batch_3 ⟨Nat.le_of_ble_eq_true rfl, Nat.le_of_ble_eq_true rfl⟩) ?_
  refine W.eq (g2 := F0 m 6 ls []) rfl ?_
  refine lv_iload_n hx hb d_B_batch_6 rfl (lv_at hl 2 rfl) ?_
  refine lv_lookup (tgt := 32) (off := 25) hx hb d_B_batch_7 (by decide) (rfl) (by decide) ?_
  refine lv_aload_n hx hb d_B_batch_32 rfl (lv_at hl 0 rfl) ?_
  refine va_get (D := (dC, dI)) (ci := 0) (v := .ref (ad 5)) (C := "ClearingBooks") (T := T_B) (N := 12) hx hb hts wi_B hown hK hP 0 rfl rfl 5 (by decide) (hts _ kw_22) (fun _ h9 => h9) rfl d_B_batch_33 ?_
  refine lv_iload_n hx hb d_B_batch_36 rfl (lv_at hl 1 rfl) ?_
  refine xa_iaload (f := bc) hx hb hK hP 5 0 rfl rfl (j := i) (by omega) (by decide) d_B_batch_37 ?_
  refine lv_i2l (v := (bc i).toInt64) hx hb d_B_batch_38 rfl ?_
  exact W.lret (v := (bc i).toInt64) hx hb hr (fun t ht hW => ⟨rfl, ht⟩) (fun q hq => by cases hq) d_B_batch_39
set_option maxHeartbeats 4000000 in
set_option maxRecDepth 100000 in
theorem c_batch_y1 (l : Launch) (dC : Nat → ClassId) (dI : Nat → Nat → Nat) (ad : Nat → Nat) (cI cJ : ClassId) (n tc : Nat) (ki ra : Nat → Int32) (po se : Nat → Int64) (bc : Nat → Int32) (bs op : Nat → Int64) (pr pe : Nat → Int32) (pm : Nat → Int64) (i : Nat) (hji : i < n) (hn : n ≤ 15) (hki : ki i = nI 1) : Met l y_B_batch (.code y_B_batch b_B_batch 3 (some .long) :: wAll) ({ frames := 2, cells := 0, slots := 0, locals := 43 } : Room) (ro_P [.ref (ad 0), .int (nI i), .int (nI 1)] (dC, dI) vwCl [(cI, .int), (cJ, .long)] (cb_w ad cI cJ n tc ki ra po se bc bs op pr pe pm) (fun _ => True)) (ro_Q (some (.long (bs i)))) 0 0 (fun _ => False) := by
  refine Met.ofW (cc := b_B_batch) (maxL := 3) (ret := (some .long)) (by decide) rfl ?_
  intro p e s m args below meth c s₁ B hml hv
  obtain ⟨rfl, hP, hK, hB⟩ := hv
  have hx := B.exec
  have hb := B.bytes
  have hr := B.returns
  have hts0 := atoms_spec (ws := (.code y_B_batch b_B_batch 3 (some .long) :: wAll)) B.pre
  have hts := hts_all hts0
  have hown : s.vm.findClass "ClearingBooks" = some m.cls := findClass_of_methodNamed B.named
  have hlocks := B.notSynchronized
  have hl := lv_entry ([.ref (ad 0), .int (nI i), .int (nI 1)]) (n := 3) (Nat.le_of_ble_eq_true rfl)
  rw [lg_entry_eq]
  generalize (lg_sl ([.ref (ad 0), .int (nI i), .int (nI 1)]) ++ List.replicate (3 - (lg_sl ([.ref (ad 0), .int (nI i), .int (nI 1)])).length) Slot.unset).toArray = ls at hl ⊢
  have hl : lv_has ls 3 [(0, .ref (ad 0)), (1, .int (nI i)), (2, .int (nI 1))] := hl
  refine lv_aload_n hx hb d_B_batch_0 rfl (lv_at hl 0 rfl) ?_
  refine lv_iload_n hx hb d_B_batch_1 rfl (lv_at hl 1 rfl) ?_
  refine lv_iconst (v := nI 1) hx hb d_B_batch_2 (by decide) ?_
  refine ro_call (va_runV (As := [.int (nI i), .int (nI 1)]) (rest := []) ⟨hx, hb, hml, hown, hts⟩ (c_requireKind_y l dC dI ad cI cJ n tc ki ra po se bc bs op pr pe pm i (nI 1) hji hn hki) (cwV 2 hts (wAll_v kw_201 kw_203 ks_7 kw_1 kw_204) rfl rfl rfl (by decide +kernel) ⟨Nat.le_of_ble_eq_true rfl, Nat.le_of_ble_eq_true rfl⟩) (ro_preV bl_tt hK hP (ci := 0) (q0 := 0) rfl rfl (fun _ _ _ => trivial)) rfl rfl hl.1 rfl (lv_room (Nat.le_of_ble_eq_true rfl)) d_B_batch_3 ⟨Nat.le_of_ble_eq_true rfl, Nat.le_of_ble_eq_true rfl⟩) ?_
  refine W.eq (g2 := F0 m 6 ls []) rfl ?_
  refine lv_iload_n hx hb d_B_batch_6 rfl (lv_at hl 2 rfl) ?_
  refine lv_lookup (tgt := 40) (off := 33) hx hb d_B_batch_7 (by decide) (rfl) (by decide) ?_
  refine lv_aload_n hx hb d_B_batch_40 rfl (lv_at hl 0 rfl) ?_
  refine va_get (D := (dC, dI)) (ci := 0) (v := .ref (ad 6)) (C := "ClearingBooks") (T := T_B) (N := 12) hx hb hts wi_B hown hK hP 0 rfl rfl 6 (by decide) (hts _ kw_23) (fun _ h9 => h9) rfl d_B_batch_41 ?_
  refine lv_iload_n hx hb d_B_batch_44 rfl (lv_at hl 1 rfl) ?_
  refine xa_laload (f := bs) hx hb hK hP 6 1 rfl rfl (j := i) (by omega) (by decide) d_B_batch_45 ?_
  exact W.lret (v := bs i) hx hb hr (fun t ht hW => ⟨rfl, ht⟩) (fun q hq => by cases hq) d_B_batch_46
set_option maxHeartbeats 4000000 in
set_option maxRecDepth 100000 in
theorem c_batch_tk (l : Launch) (dC : Nat → ClassId) (dI : Nat → Nat → Nat) (ad : Nat → Nat) (cI cJ : ClassId) (n tc : Nat) (ki ra : Nat → Int32) (po se : Nat → Int64) (bc : Nat → Int32) (bs op : Nat → Int64) (pr pe : Nat → Int32) (pm : Nat → Int64) (x k : Int32) (hn : n ≤ 15) (hno : ¬ is_k n ki x (nI 1)) (hl0 : l.stackTraces = false) : xt_Met l y_B_batch (.code y_B_batch b_B_batch 3 (some .long) :: wAll) ({ frames := 7, cells := 1, slots := 6, locals := 112 } : Room) (ro_P [.ref (ad 0), .int x, .int k] (dC, dI) vwCl [(cI, .int), (cJ, .long)] (cb_w ad cI cJ n tc ki ra po se bc bs op pr pe pm) (xc_ok "ClearingBooks" cb_ks)) "java/lang/IllegalArgumentException" 1 6 := by
  refine xt_ofW (cc := b_B_batch) (maxL := 3) (ret := (some .long)) (by decide) rfl ?_
  intro p e s m args below meth c s₁ B hml hv
  obtain ⟨rfl, hP, hK, hB⟩ := hv
  have hx := B.exec
  have hb := B.bytes
  have hr := B.returns
  have hts0 := atoms_spec (ws := (.code y_B_batch b_B_batch 3 (some .long) :: wAll)) B.pre
  have hts := hts_all hts0
  have hown : s.vm.findClass "ClearingBooks" = some m.cls := findClass_of_methodNamed B.named
  have hlocks := B.notSynchronized
  have hnh := B.noHandlers (hts0 _ List.mem_cons_self)
  have hout : ∀ pc9 : Nat, ∀ x ∈ c.exceptionTable.toList, covers x pc9 = false := fun pc9 x hx9 => by rw [xt_nil hnh] at hx9; cases hx9
  have hl := lv_entry ([.ref (ad 0), .int x, .int k]) (n := 3) (Nat.le_of_ble_eq_true rfl)
  rw [lg_entry_eq]
  generalize (lg_sl ([.ref (ad 0), .int x, .int k]) ++ List.replicate (3 - (lg_sl ([.ref (ad 0), .int x, .int k])).length) Slot.unset).toArray = ls at hl ⊢
  have hl : lv_has ls 3 [(0, .ref (ad 0)), (1, .int x), (2, .int k)] := hl
  refine lv_aload_n hx hb d_B_batch_0 rfl (lv_at hl 0 rfl) ?_
  refine lv_iload_n hx hb d_B_batch_1 rfl (lv_at hl 1 rfl) ?_
  refine lv_iconst (v := nI 1) hx hb d_B_batch_2 (by decide) ?_
  exact xt_pass (xt_runV (As := [.int x, .int (nI 1)]) (rest := []) ⟨hx, hb, hml, hown, hts⟩ (c_requireKind_t l dC dI ad cI cJ n tc ki ra po se bc bs op pr pe pm x (nI 1) hn hno hl0) (cwV 2 hts (wAll_v kw_201 kw_203 ks_7 kw_1 kw_204) rfl rfl rfl (by decide +kernel) ⟨Nat.le_of_ble_eq_true rfl, Nat.le_of_ble_eq_true rfl⟩) (ro_preV bl_xc hK hP (ci := 0) (q0 := 0) rfl rfl (fun U hU hW => xc_moved hB hW (fun q _ => by rw [hU]))) rfl rfl hl.1 rfl (lv_room (Nat.le_of_ble_eq_true rfl)) d_B_batch_3 ⟨Nat.le_of_ble_eq_true rfl, Nat.le_of_ble_eq_true rfl⟩) (hout _) hlocks (Nat.le_of_ble_eq_true rfl) (Nat.le_of_ble_eq_true rfl)
set_option maxHeartbeats 4000000 in
set_option maxRecDepth 100000 in
theorem c_batch_tw (l : Launch) (dC : Nat → ClassId) (dI : Nat → Nat → Nat) (ad : Nat → Nat) (cI cJ : ClassId) (n tc : Nat) (ki ra : Nat → Int32) (po se : Nat → Int64) (bc : Nat → Int32) (bs op : Nat → Int64) (pr pe : Nat → Int32) (pm : Nat → Int64) (i : Nat) (k : Int32) (hji : i < n) (hn : n ≤ 15) (hki : ki i = nI 1) (hw0 : ¬ k = nI 0) (hw1 : ¬ k = nI 1) (hl0 : l.stackTraces = false) : xt_Met l y_B_batch (.code y_B_batch b_B_batch 3 (some .long) :: wAll) ({ frames := 7, cells := 1, slots := 6, locals := 112 } : Room) (ro_P [.ref (ad 0), .int (nI i), .int k] (dC, dI) vwCl [(cI, .int), (cJ, .long)] (cb_w ad cI cJ n tc ki ra po se bc bs op pr pe pm) (xc_ok "ClearingBooks" cb_ks)) "java/lang/IllegalArgumentException" 1 6 := by
  refine xt_ofW (cc := b_B_batch) (maxL := 3) (ret := (some .long)) (by decide) rfl ?_
  intro p e s m args below meth c s₁ B hml hv
  obtain ⟨rfl, hP, hK, hB⟩ := hv
  have hx := B.exec
  have hb := B.bytes
  have hr := B.returns
  have hts0 := atoms_spec (ws := (.code y_B_batch b_B_batch 3 (some .long) :: wAll)) B.pre
  have hts := hts_all hts0
  have hown : s.vm.findClass "ClearingBooks" = some m.cls := findClass_of_methodNamed B.named
  have hlocks := B.notSynchronized
  have hnh := B.noHandlers (hts0 _ List.mem_cons_self)
  have hout : ∀ pc9 : Nat, ∀ x ∈ c.exceptionTable.toList, covers x pc9 = false := fun pc9 x hx9 => by rw [xt_nil hnh] at hx9; cases hx9
  have hl := lv_entry ([.ref (ad 0), .int (nI i), .int k]) (n := 3) (Nat.le_of_ble_eq_true rfl)
  rw [lg_entry_eq]
  generalize (lg_sl ([.ref (ad 0), .int (nI i), .int k]) ++ List.replicate (3 - (lg_sl ([.ref (ad 0), .int (nI i), .int k])).length) Slot.unset).toArray = ls at hl ⊢
  have hl : lv_has ls 3 [(0, .ref (ad 0)), (1, .int (nI i)), (2, .int k)] := hl
  refine lv_aload_n hx hb d_B_batch_0 rfl (lv_at hl 0 rfl) ?_
  refine lv_iload_n hx hb d_B_batch_1 rfl (lv_at hl 1 rfl) ?_
  refine lv_iconst (v := nI 1) hx hb d_B_batch_2 (by decide) ?_
  refine ro_call (va_runV (As := [.int (nI i), .int (nI 1)]) (rest := []) ⟨hx, hb, hml, hown, hts⟩ (c_requireKind_y l dC dI ad cI cJ n tc ki ra po se bc bs op pr pe pm i (nI 1) hji hn hki) (cwV 2 hts (wAll_v kw_201 kw_203 ks_7 kw_1 kw_204) rfl rfl rfl (by decide +kernel) ⟨Nat.le_of_ble_eq_true rfl, Nat.le_of_ble_eq_true rfl⟩) (ro_preV bl_tt hK hP (ci := 0) (q0 := 0) rfl rfl (fun _ _ _ => trivial)) rfl rfl hl.1 rfl (lv_room (Nat.le_of_ble_eq_true rfl)) d_B_batch_3 ⟨Nat.le_of_ble_eq_true rfl, Nat.le_of_ble_eq_true rfl⟩) ?_
  refine W.eq (g2 := F0 m 6 ls []) rfl ?_
  refine lv_iload_n hx hb d_B_batch_6 rfl (lv_at hl 2 rfl) ?_
  refine lv_lookup (tgt := 47) (off := 40) hx hb d_B_batch_7 (by decide) ((lv_osw (k := nI 0) hw0 (by decide)).trans ((lv_osw (k := nI 1) hw1 (by decide)).trans (rfl))) (by decide) ?_
  obtain ⟨sa, hsa⟩ := hB.2.1 _ (List.mem_of_getElem? (l := cb_ks) (i := 4) rfl)
  exact xt_throw (names := ["java/lang/RuntimeException", "java/lang/Exception"]) hx hb hl0 hown (by decide) (by decide) (hts _ kw_104) (hts _ kw_6) hsa (xc_atoms hB hts at_iae) (by rw [hml]; exact hl.1) (Nat.le_refl _) d_B_batch_47 d_B_batch_50 d_B_batch_51 d_B_batch_53 d_B_batch_56 (hout _) (Nat.le_of_ble_eq_true rfl) (Nat.le_of_ble_eq_true rfl) (Nat.le_of_ble_eq_true rfl) (Nat.le_of_ble_eq_true rfl) hlocks (Nat.le_of_ble_eq_true rfl) (Nat.le_of_ble_eq_true rfl)
set_option maxHeartbeats 4000000 in
set_option maxRecDepth 100000 in
theorem c_transfer_y0 (l : Launch) (dC : Nat → ClassId) (dI : Nat → Nat → Nat) (ad : Nat → Nat) (cI cJ : ClassId) (n tc : Nat) (ki ra : Nat → Int32) (po se : Nat → Int64) (bc : Nat → Int32) (bs op : Nat → Int64) (pr pe : Nat → Int32) (pm : Nat → Int64) (i : Nat) (hi : i < tc) (htc : tc ≤ 14) : Met l y_B_transfer (.code y_B_transfer b_B_transfer 3 (some .long) :: wAll) ({ frames := 0, cells := 0, slots := 0, locals := 0 } : Room) (ro_P [.ref (ad 0), .int (nI i), .int (nI 0)] (dC, dI) vwCl [(cI, .int), (cJ, .long)] (cb_w ad cI cJ n tc ki ra po se bc bs op pr pe pm) (fun _ => True)) (ro_Q (some (.long ((pr i).toInt64)))) 0 0 (fun _ => False) := by
  refine Met.ofW (cc := b_B_transfer) (maxL := 3) (ret := (some .long)) (by decide) rfl ?_
  intro p e s m args below meth c s₁ B hml hv
  obtain ⟨rfl, hP, hK, hB⟩ := hv
  have hx := B.exec
  have hb := B.bytes
  have hr := B.returns
  have hts0 := atoms_spec (ws := (.code y_B_transfer b_B_transfer 3 (some .long) :: wAll)) B.pre
  have hts := hts_all hts0
  have hown : s.vm.findClass "ClearingBooks" = some m.cls := findClass_of_methodNamed B.named
  have hlocks := B.notSynchronized
  have hl := lv_entry ([.ref (ad 0), .int (nI i), .int (nI 0)]) (n := 3) (Nat.le_of_ble_eq_true rfl)
  rw [lg_entry_eq]
  generalize (lg_sl ([.ref (ad 0), .int (nI i), .int (nI 0)]) ++ List.replicate (3 - (lg_sl ([.ref (ad 0), .int (nI i), .int (nI 0)])).length) Slot.unset).toArray = ls at hl ⊢
  have hl : lv_has ls 3 [(0, .ref (ad 0)), (1, .int (nI i)), (2, .int (nI 0))] := hl
  refine lv_iload_n hx hb d_B_transfer_0 rfl (lv_at hl 1 rfl) ?_
  refine lv_if_lt (tgt := 12) hx hb d_B_transfer_1 (by decide) (fun c1 => ?_) (fun c1 => ?_)
  · exact absurd c1 (nI_pos (by omega))
  · refine lv_iload_n hx hb d_B_transfer_4 rfl (lv_at hl 1 rfl) ?_
    refine lv_aload_n hx hb d_B_transfer_5 rfl (lv_at hl 0 rfl) ?_
    refine va_get (D := (dC, dI)) (ci := 0) (v := .int (nI tc)) (C := "ClearingBooks") (T := T_B) (N := 12) hx hb hts wi_B hown hK hP 0 rfl rfl 8 (by decide) (hts _ kw_25) (fun _ h9 => h9) rfl d_B_transfer_6 ?_
    refine lv_icmp_lt (tgt := 22) hx hb d_B_transfer_9 (by decide) (fun c2 => ?_) (fun c2 => ?_)
    · replace c2 := (nI_ltI (by omega) (by omega)).mp c2
      refine lv_iload_n hx hb d_B_transfer_22 rfl (lv_at hl 2 rfl) ?_
      refine lv_tableIn (tgt := 48) (off := 25) hx hb d_B_transfer_23 (by decide) (by decide) rfl (by decide) ?_
      refine lv_aload_n hx hb d_B_transfer_48 rfl (lv_at hl 0 rfl) ?_
      refine va_get (D := (dC, dI)) (ci := 0) (v := .ref (ad 8)) (C := "ClearingBooks") (T := T_B) (N := 12) hx hb hts wi_B hown hK hP 0 rfl rfl 9 (by decide) (hts _ kw_26) (fun _ h9 => h9) rfl d_B_transfer_49 ?_
      refine lv_iload_n hx hb d_B_transfer_52 rfl (lv_at hl 1 rfl) ?_
      refine xa_iaload (f := pr) hx hb hK hP 8 0 rfl rfl (j := i) (by omega) (by decide) d_B_transfer_53 ?_
      refine lv_i2l (v := (pr i).toInt64) hx hb d_B_transfer_54 rfl ?_
      exact W.lret (v := (pr i).toInt64) hx hb hr (fun t ht hW => ⟨rfl, ht⟩) (fun q hq => by cases hq) d_B_transfer_55
    · replace c2 := mt (nI_ltI (by omega) (by omega)).mpr c2
      exact absurd hi c2
set_option maxHeartbeats 4000000 in
set_option maxRecDepth 100000 in
theorem c_transfer_y1 (l : Launch) (dC : Nat → ClassId) (dI : Nat → Nat → Nat) (ad : Nat → Nat) (cI cJ : ClassId) (n tc : Nat) (ki ra : Nat → Int32) (po se : Nat → Int64) (bc : Nat → Int32) (bs op : Nat → Int64) (pr pe : Nat → Int32) (pm : Nat → Int64) (i : Nat) (hi : i < tc) (htc : tc ≤ 14) : Met l y_B_transfer (.code y_B_transfer b_B_transfer 3 (some .long) :: wAll) ({ frames := 0, cells := 0, slots := 0, locals := 0 } : Room) (ro_P [.ref (ad 0), .int (nI i), .int (nI 1)] (dC, dI) vwCl [(cI, .int), (cJ, .long)] (cb_w ad cI cJ n tc ki ra po se bc bs op pr pe pm) (fun _ => True)) (ro_Q (some (.long ((pe i).toInt64)))) 0 0 (fun _ => False) := by
  refine Met.ofW (cc := b_B_transfer) (maxL := 3) (ret := (some .long)) (by decide) rfl ?_
  intro p e s m args below meth c s₁ B hml hv
  obtain ⟨rfl, hP, hK, hB⟩ := hv
  have hx := B.exec
  have hb := B.bytes
  have hr := B.returns
  have hts0 := atoms_spec (ws := (.code y_B_transfer b_B_transfer 3 (some .long) :: wAll)) B.pre
  have hts := hts_all hts0
  have hown : s.vm.findClass "ClearingBooks" = some m.cls := findClass_of_methodNamed B.named
  have hlocks := B.notSynchronized
  have hl := lv_entry ([.ref (ad 0), .int (nI i), .int (nI 1)]) (n := 3) (Nat.le_of_ble_eq_true rfl)
  rw [lg_entry_eq]
  generalize (lg_sl ([.ref (ad 0), .int (nI i), .int (nI 1)]) ++ List.replicate (3 - (lg_sl ([.ref (ad 0), .int (nI i), .int (nI 1)])).length) Slot.unset).toArray = ls at hl ⊢
  have hl : lv_has ls 3 [(0, .ref (ad 0)), (1, .int (nI i)), (2, .int (nI 1))] := hl
  refine lv_iload_n hx hb d_B_transfer_0 rfl (lv_at hl 1 rfl) ?_
  refine lv_if_lt (tgt := 12) hx hb d_B_transfer_1 (by decide) (fun c1 => ?_) (fun c1 => ?_)
  · exact absurd c1 (nI_pos (by omega))
  · refine lv_iload_n hx hb d_B_transfer_4 rfl (lv_at hl 1 rfl) ?_
    refine lv_aload_n hx hb d_B_transfer_5 rfl (lv_at hl 0 rfl) ?_
    refine va_get (D := (dC, dI)) (ci := 0) (v := .int (nI tc)) (C := "ClearingBooks") (T := T_B) (N := 12) hx hb hts wi_B hown hK hP 0 rfl rfl 8 (by decide) (hts _ kw_25) (fun _ h9 => h9) rfl d_B_transfer_6 ?_
    refine lv_icmp_lt (tgt := 22) hx hb d_B_transfer_9 (by decide) (fun c2 => ?_) (fun c2 => ?_)
    · replace c2 := (nI_ltI (by omega) (by omega)).mp c2
      refine lv_iload_n hx hb d_B_transfer_22 rfl (lv_at hl 2 rfl) ?_
      refine lv_tableIn (tgt := 56) (off := 33) hx hb d_B_transfer_23 (by decide) (by decide) rfl (by decide) ?_
      refine lv_aload_n hx hb d_B_transfer_56 rfl (lv_at hl 0 rfl) ?_
      refine va_get (D := (dC, dI)) (ci := 0) (v := .ref (ad 9)) (C := "ClearingBooks") (T := T_B) (N := 12) hx hb hts wi_B hown hK hP 0 rfl rfl 10 (by decide) (hts _ kw_27) (fun _ h9 => h9) rfl d_B_transfer_57 ?_
      refine lv_iload_n hx hb d_B_transfer_60 rfl (lv_at hl 1 rfl) ?_
      refine xa_iaload (f := pe) hx hb hK hP 9 0 rfl rfl (j := i) (by omega) (by decide) d_B_transfer_61 ?_
      refine lv_i2l (v := (pe i).toInt64) hx hb d_B_transfer_62 rfl ?_
      exact W.lret (v := (pe i).toInt64) hx hb hr (fun t ht hW => ⟨rfl, ht⟩) (fun q hq => by cases hq) d_B_transfer_63
    · replace c2 := mt (nI_ltI (by omega) (by omega)).mpr c2
      exact absurd hi c2
set_option maxHeartbeats 4000000 in
set_option maxRecDepth 100000 in
theorem c_transfer_y2 (l : Launch) (dC : Nat → ClassId) (dI : Nat → Nat → Nat) (ad : Nat → Nat) (cI cJ : ClassId) (n tc : Nat) (ki ra : Nat → Int32) (po se : Nat → Int64) (bc : Nat → Int32) (bs op : Nat → Int64) (pr pe : Nat → Int32) (pm : Nat → Int64) (i : Nat) (hi : i < tc) (htc : tc ≤ 14) : Met l y_B_transfer (.code y_B_transfer b_B_transfer 3 (some .long) :: wAll) ({ frames := 0, cells := 0, slots := 0, locals := 0 } : Room) (ro_P [.ref (ad 0), .int (nI i), .int (nI 2)] (dC, dI) vwCl [(cI, .int), (cJ, .long)] (cb_w ad cI cJ n tc ki ra po se bc bs op pr pe pm) (fun _ => True)) (ro_Q (some (.long (pm i)))) 0 0 (fun _ => False) := by
  refine Met.ofW (cc := b_B_transfer) (maxL := 3) (ret := (some .long)) (by decide) rfl ?_
  intro p e s m args below meth c s₁ B hml hv
  obtain ⟨rfl, hP, hK, hB⟩ := hv
  have hx := B.exec
  have hb := B.bytes
  have hr := B.returns
  have hts0 := atoms_spec (ws := (.code y_B_transfer b_B_transfer 3 (some .long) :: wAll)) B.pre
  have hts := hts_all hts0
  have hown : s.vm.findClass "ClearingBooks" = some m.cls := findClass_of_methodNamed B.named
  have hlocks := B.notSynchronized
  have hl := lv_entry ([.ref (ad 0), .int (nI i), .int (nI 2)]) (n := 3) (Nat.le_of_ble_eq_true rfl)
  rw [lg_entry_eq]
  generalize (lg_sl ([.ref (ad 0), .int (nI i), .int (nI 2)]) ++ List.replicate (3 - (lg_sl ([.ref (ad 0), .int (nI i), .int (nI 2)])).length) Slot.unset).toArray = ls at hl ⊢
  have hl : lv_has ls 3 [(0, .ref (ad 0)), (1, .int (nI i)), (2, .int (nI 2))] := hl
  refine lv_iload_n hx hb d_B_transfer_0 rfl (lv_at hl 1 rfl) ?_
  refine lv_if_lt (tgt := 12) hx hb d_B_transfer_1 (by decide) (fun c1 => ?_) (fun c1 => ?_)
  · exact absurd c1 (nI_pos (by omega))
  · refine lv_iload_n hx hb d_B_transfer_4 rfl (lv_at hl 1 rfl) ?_
    refine lv_aload_n hx hb d_B_transfer_5 rfl (lv_at hl 0 rfl) ?_
    refine va_get (D := (dC, dI)) (ci := 0) (v := .int (nI tc)) (C := "ClearingBooks") (T := T_B) (N := 12) hx hb hts wi_B hown hK hP 0 rfl rfl 8 (by decide) (hts _ kw_25) (fun _ h9 => h9) rfl d_B_transfer_6 ?_
    refine lv_icmp_lt (tgt := 22) hx hb d_B_transfer_9 (by decide) (fun c2 => ?_) (fun c2 => ?_)
    · replace c2 := (nI_ltI (by omega) (by omega)).mp c2
      refine lv_iload_n hx hb d_B_transfer_22 rfl (lv_at hl 2 rfl) ?_
      refine lv_tableIn (tgt := 64) (off := 41) hx hb d_B_transfer_23 (by decide) (by decide) rfl (by decide) ?_
      refine lv_aload_n hx hb d_B_transfer_64 rfl (lv_at hl 0 rfl) ?_
      refine va_get (D := (dC, dI)) (ci := 0) (v := .ref (ad 10)) (C := "ClearingBooks") (T := T_B) (N := 12) hx hb hts wi_B hown hK hP 0 rfl rfl 11 (by decide) (hts _ kw_28) (fun _ h9 => h9) rfl d_B_transfer_65 ?_
      refine lv_iload_n hx hb d_B_transfer_68 rfl (lv_at hl 1 rfl) ?_
      refine xa_laload (f := pm) hx hb hK hP 10 1 rfl rfl (j := i) (by omega) (by decide) d_B_transfer_69 ?_
      exact W.lret (v := pm i) hx hb hr (fun t ht hW => ⟨rfl, ht⟩) (fun q hq => by cases hq) d_B_transfer_70
    · replace c2 := mt (nI_ltI (by omega) (by omega)).mpr c2
      exact absurd hi c2
set_option maxHeartbeats 4000000 in
set_option maxRecDepth 100000 in
theorem c_transfer_tk (l : Launch) (dC : Nat → ClassId) (dI : Nat → Nat → Nat) (ad : Nat → Nat) (cI cJ : ClassId) (n tc : Nat) (ki ra : Nat → Int32) (po se : Nat → Int64) (bc : Nat → Int32) (bs op : Nat → Int64) (pr pe : Nat → Int32) (pm : Nat → Int64) (x k : Int32) (hno : ¬ (¬ x < 0 ∧ x < nI tc)) (hl0 : l.stackTraces = false) : xt_Met l y_B_transfer (.code y_B_transfer b_B_transfer 3 (some .long) :: wAll) ({ frames := 6, cells := 1, slots := 6, locals := 90 } : Room) (ro_P [.ref (ad 0), .int x, .int k] (dC, dI) vwCl [(cI, .int), (cJ, .long)] (cb_w ad cI cJ n tc ki ra po se bc bs op pr pe pm) (xc_ok "ClearingBooks" cb_ks)) "java/lang/IllegalArgumentException" 1 6 := by
  refine xt_ofW (cc := b_B_transfer) (maxL := 3) (ret := (some .long)) (by decide) rfl ?_
  intro p e s m args below meth c s₁ B hml hv
  obtain ⟨rfl, hP, hK, hB⟩ := hv
  have hx := B.exec
  have hb := B.bytes
  have hr := B.returns
  have hts0 := atoms_spec (ws := (.code y_B_transfer b_B_transfer 3 (some .long) :: wAll)) B.pre
  have hts := hts_all hts0
  have hown : s.vm.findClass "ClearingBooks" = some m.cls := findClass_of_methodNamed B.named
  have hlocks := B.notSynchronized
  have hnh := B.noHandlers (hts0 _ List.mem_cons_self)
  have hout : ∀ pc9 : Nat, ∀ x ∈ c.exceptionTable.toList, covers x pc9 = false := fun pc9 x hx9 => by rw [xt_nil hnh] at hx9; cases hx9
  have hl := lv_entry ([.ref (ad 0), .int x, .int k]) (n := 3) (Nat.le_of_ble_eq_true rfl)
  rw [lg_entry_eq]
  generalize (lg_sl ([.ref (ad 0), .int x, .int k]) ++ List.replicate (3 - (lg_sl ([.ref (ad 0), .int x, .int k])).length) Slot.unset).toArray = ls at hl ⊢
  have hl : lv_has ls 3 [(0, .ref (ad 0)), (1, .int x), (2, .int k)] := hl
  refine lv_iload_n hx hb d_B_transfer_0 rfl (lv_at hl 1 rfl) ?_
  refine lv_if_lt (tgt := 12) hx hb d_B_transfer_1 (by decide) (fun c1 => ?_) (fun c1 => ?_)
  · obtain ⟨sa, hsa⟩ := hB.2.1 _ (List.mem_of_getElem? (l := cb_ks) (i := 5) rfl)
    exact xt_throw (names := ["java/lang/RuntimeException", "java/lang/Exception"]) hx hb hl0 hown (by decide) (by decide) (hts _ kw_104) (hts _ kw_6) hsa (xc_atoms hB hts at_iae) (by rw [hml]; exact hl.1) (Nat.le_refl _) d_B_transfer_12 d_B_transfer_15 d_B_transfer_16 d_B_transfer_18 d_B_transfer_21 (hout _) (Nat.le_of_ble_eq_true rfl) (Nat.le_of_ble_eq_true rfl) (Nat.le_of_ble_eq_true rfl) (Nat.le_of_ble_eq_true rfl) hlocks (Nat.le_of_ble_eq_true rfl) (Nat.le_of_ble_eq_true rfl)
  · refine lv_iload_n hx hb d_B_transfer_4 rfl (lv_at hl 1 rfl) ?_
    refine lv_aload_n hx hb d_B_transfer_5 rfl (lv_at hl 0 rfl) ?_
    refine va_get (D := (dC, dI)) (ci := 0) (v := .int (nI tc)) (C := "ClearingBooks") (T := T_B) (N := 12) hx hb hts wi_B hown hK hP 0 rfl rfl 8 (by decide) (hts _ kw_25) (fun _ h9 => h9) rfl d_B_transfer_6 ?_
    refine lv_icmp_lt (tgt := 22) hx hb d_B_transfer_9 (by decide) (fun c2 => ?_) (fun c2 => ?_)
    · exact absurd ⟨c1, c2⟩ hno
    · obtain ⟨sa, hsa⟩ := hB.2.1 _ (List.mem_of_getElem? (l := cb_ks) (i := 5) rfl)
      exact xt_throw (names := ["java/lang/RuntimeException", "java/lang/Exception"]) hx hb hl0 hown (by decide) (by decide) (hts _ kw_104) (hts _ kw_6) hsa (xc_atoms hB hts at_iae) (by rw [hml]; exact hl.1) (Nat.le_refl _) d_B_transfer_12 d_B_transfer_15 d_B_transfer_16 d_B_transfer_18 d_B_transfer_21 (hout _) (Nat.le_of_ble_eq_true rfl) (Nat.le_of_ble_eq_true rfl) (Nat.le_of_ble_eq_true rfl) (Nat.le_of_ble_eq_true rfl) hlocks (Nat.le_of_ble_eq_true rfl) (Nat.le_of_ble_eq_true rfl)
set_option maxHeartbeats 4000000 in
set_option maxRecDepth 100000 in
theorem c_transfer_tw (l : Launch) (dC : Nat → ClassId) (dI : Nat → Nat → Nat) (ad : Nat → Nat) (cI cJ : ClassId) (n tc : Nat) (ki ra : Nat → Int32) (po se : Nat → Int64) (bc : Nat → Int32) (bs op : Nat → Int64) (pr pe : Nat → Int32) (pm : Nat → Int64) (i : Nat) (k : Int32) (hi : i < tc) (htc : tc ≤ 14) (hw : k.toInt < 0 ∨ 2 < k.toInt) (hl0 : l.stackTraces = false) : xt_Met l y_B_transfer (.code y_B_transfer b_B_transfer 3 (some .long) :: wAll) ({ frames := 6, cells := 1, slots := 6, locals := 90 } : Room) (ro_P [.ref (ad 0), .int (nI i), .int k] (dC, dI) vwCl [(cI, .int), (cJ, .long)] (cb_w ad cI cJ n tc ki ra po se bc bs op pr pe pm) (xc_ok "ClearingBooks" cb_ks)) "java/lang/IllegalArgumentException" 1 6 := by
  refine xt_ofW (cc := b_B_transfer) (maxL := 3) (ret := (some .long)) (by decide) rfl ?_
  intro p e s m args below meth c s₁ B hml hv
  obtain ⟨rfl, hP, hK, hB⟩ := hv
  have hx := B.exec
  have hb := B.bytes
  have hr := B.returns
  have hts0 := atoms_spec (ws := (.code y_B_transfer b_B_transfer 3 (some .long) :: wAll)) B.pre
  have hts := hts_all hts0
  have hown : s.vm.findClass "ClearingBooks" = some m.cls := findClass_of_methodNamed B.named
  have hlocks := B.notSynchronized
  have hnh := B.noHandlers (hts0 _ List.mem_cons_self)
  have hout : ∀ pc9 : Nat, ∀ x ∈ c.exceptionTable.toList, covers x pc9 = false := fun pc9 x hx9 => by rw [xt_nil hnh] at hx9; cases hx9
  have hl := lv_entry ([.ref (ad 0), .int (nI i), .int k]) (n := 3) (Nat.le_of_ble_eq_true rfl)
  rw [lg_entry_eq]
  generalize (lg_sl ([.ref (ad 0), .int (nI i), .int k]) ++ List.replicate (3 - (lg_sl ([.ref (ad 0), .int (nI i), .int k])).length) Slot.unset).toArray = ls at hl ⊢
  have hl : lv_has ls 3 [(0, .ref (ad 0)), (1, .int (nI i)), (2, .int k)] := hl
  refine lv_iload_n hx hb d_B_transfer_0 rfl (lv_at hl 1 rfl) ?_
  refine lv_if_lt (tgt := 12) hx hb d_B_transfer_1 (by decide) (fun c1 => ?_) (fun c1 => ?_)
  · exact absurd c1 (nI_pos (by omega))
  · refine lv_iload_n hx hb d_B_transfer_4 rfl (lv_at hl 1 rfl) ?_
    refine lv_aload_n hx hb d_B_transfer_5 rfl (lv_at hl 0 rfl) ?_
    refine va_get (D := (dC, dI)) (ci := 0) (v := .int (nI tc)) (C := "ClearingBooks") (T := T_B) (N := 12) hx hb hts wi_B hown hK hP 0 rfl rfl 8 (by decide) (hts _ kw_25) (fun _ h9 => h9) rfl d_B_transfer_6 ?_
    refine lv_icmp_lt (tgt := 22) hx hb d_B_transfer_9 (by decide) (fun c2 => ?_) (fun c2 => ?_)
    · replace c2 := (nI_ltI (by omega) (by omega)).mp c2
      refine lv_iload_n hx hb d_B_transfer_22 rfl (lv_at hl 2 rfl) ?_
      refine lv_tableOut (tgt := 71) hx hb d_B_transfer_23 hw (by decide) ?_
      obtain ⟨sa, hsa⟩ := hB.2.1 _ (List.mem_of_getElem? (l := cb_ks) (i := 6) rfl)
      exact xt_throw (names := ["java/lang/RuntimeException", "java/lang/Exception"]) hx hb hl0 hown (by decide) (by decide) (hts _ kw_104) (hts _ kw_6) hsa (xc_atoms hB hts at_iae) (by rw [hml]; exact hl.1) (Nat.le_refl _) d_B_transfer_71 d_B_transfer_74 d_B_transfer_75 d_B_transfer_77 d_B_transfer_80 (hout _) (Nat.le_of_ble_eq_true rfl) (Nat.le_of_ble_eq_true rfl) (Nat.le_of_ble_eq_true rfl) (Nat.le_of_ble_eq_true rfl) hlocks (Nat.le_of_ble_eq_true rfl) (Nat.le_of_ble_eq_true rfl)
    · replace c2 := mt (nI_ltI (by omega) (by omega)).mpr c2
      exact absurd hi c2
set_option maxHeartbeats 4000000 in
set_option maxRecDepth 100000 in
theorem c_party_y0 (l : Launch) (dC : Nat → ClassId) (dI : Nat → Nat → Nat) (ad : Nat → Nat) (cI cJ : ClassId) (n tc : Nat) (ki ra : Nat → Int32) (po se : Nat → Int64) (bc : Nat → Int32) (bs op : Nat → Int64) (pr pe : Nat → Int32) (pm : Nat → Int64) (i : Nat) (hi : i < n) (hn : n ≤ 15) : Met l y_B_party (.code y_B_party b_B_party 3 (some .long) :: wAll) ({ frames := 1, cells := 0, slots := 0, locals := 24 } : Room) (ro_P [.ref (ad 0), .int (nI i), .int (nI 0)] (dC, dI) vwCl [(cI, .int), (cJ, .long)] (cb_w ad cI cJ n tc ki ra po se bc bs op pr pe pm) (fun _ => True)) (ro_Q (some (.long (po i)))) 0 0 (fun _ => False) := by
  refine Met.ofW (cc := b_B_party) (maxL := 3) (ret := (some .long)) (by decide) rfl ?_
  intro p e s m args below meth c s₁ B hml hv
  obtain ⟨rfl, hP, hK, hB⟩ := hv
  have hx := B.exec
  have hb := B.bytes
  have hr := B.returns
  have hts0 := atoms_spec (ws := (.code y_B_party b_B_party 3 (some .long) :: wAll)) B.pre
  have hts := hts_all hts0
  have hown : s.vm.findClass "ClearingBooks" = some m.cls := findClass_of_methodNamed B.named
  have hlocks := B.notSynchronized
  have hl := lv_entry ([.ref (ad 0), .int (nI i), .int (nI 0)]) (n := 3) (Nat.le_of_ble_eq_true rfl)
  rw [lg_entry_eq]
  generalize (lg_sl ([.ref (ad 0), .int (nI i), .int (nI 0)]) ++ List.replicate (3 - (lg_sl ([.ref (ad 0), .int (nI i), .int (nI 0)])).length) Slot.unset).toArray = ls at hl ⊢
  have hl : lv_has ls 3 [(0, .ref (ad 0)), (1, .int (nI i)), (2, .int (nI 0))] := hl
  refine lv_aload_n hx hb d_B_party_0 rfl (lv_at hl 0 rfl) ?_
  refine lv_iload_n hx hb d_B_party_1 rfl (lv_at hl 1 rfl) ?_
  refine ro_call (va_runV (As := [.int (nI i)]) (rest := []) ⟨hx, hb, hml, hown, hts⟩ (c_isParty_y l dC dI ad cI cJ n tc ki ra po se bc bs op pr pe pm i hi hn) (cwV 1 hts (wAll_v kw_205 kw_207 ks_8 kw_1 kw_208) rfl rfl rfl (by decide +kernel) ⟨Nat.le_of_ble_eq_true rfl, Nat.le_of_ble_eq_true rfl⟩) (ro_preV bl_tt hK hP (ci := 0) (q0 := 0) rfl rfl (fun _ _ _ => trivial)) rfl rfl hl.1 rfl (lv_room (Nat.le_of_ble_eq_true rfl)) d_B_party_2 ⟨Nat.le_of_ble_eq_true rfl, Nat.le_of_ble_eq_true rfl⟩) ?_
  refine W.eq (g2 := F0 m 5 ls [.int (nI 1)]) rfl ?_
  refine lv_if_ne (tgt := 18) hx hb d_B_party_5 (by decide) (fun c1 => ?_) (fun c1 => ?_)
  · refine lv_iload_n hx hb d_B_party_18 rfl (lv_at hl 2 rfl) ?_
    refine lv_tableIn (tgt := 52) (off := 33) hx hb d_B_party_19 (by decide) (by decide) rfl (by decide) ?_
    refine lv_aload_n hx hb d_B_party_52 rfl (lv_at hl 0 rfl) ?_
    refine va_get (D := (dC, dI)) (ci := 0) (v := .ref (ad 3)) (C := "ClearingBooks") (T := T_B) (N := 12) hx hb hts wi_B hown hK hP 0 rfl rfl 3 (by decide) (hts _ kw_20) (fun _ h9 => h9) rfl d_B_party_53 ?_
    refine lv_iload_n hx hb d_B_party_56 rfl (lv_at hl 1 rfl) ?_
    refine xa_laload (f := po) hx hb hK hP 3 1 rfl rfl (j := i) (by omega) (by decide) d_B_party_57 ?_
    exact W.lret (v := po i) hx hb hr (fun t ht hW => ⟨rfl, ht⟩) (fun q hq => by cases hq) d_B_party_58
  · exact absurd c1 (by decide)
set_option maxHeartbeats 4000000 in
set_option maxRecDepth 100000 in
theorem c_party_y1 (l : Launch) (dC : Nat → ClassId) (dI : Nat → Nat → Nat) (ad : Nat → Nat) (cI cJ : ClassId) (n tc : Nat) (ki ra : Nat → Int32) (po se : Nat → Int64) (bc : Nat → Int32) (bs op : Nat → Int64) (pr pe : Nat → Int32) (pm : Nat → Int64) (i : Nat) (hi : i < n) (hn : n ≤ 15) : Met l y_B_party (.code y_B_party b_B_party 3 (some .long) :: wAll) ({ frames := 1, cells := 0, slots := 0, locals := 24 } : Room) (ro_P [.ref (ad 0), .int (nI i), .int (nI 1)] (dC, dI) vwCl [(cI, .int), (cJ, .long)] (cb_w ad cI cJ n tc ki ra po se bc bs op pr pe pm) (fun _ => True)) (ro_Q (some (.long (se i)))) 0 0 (fun _ => False) := by
  refine Met.ofW (cc := b_B_party) (maxL := 3) (ret := (some .long)) (by decide) rfl ?_
  intro p e s m args below meth c s₁ B hml hv
  obtain ⟨rfl, hP, hK, hB⟩ := hv
  have hx := B.exec
  have hb := B.bytes
  have hr := B.returns
  have hts0 := atoms_spec (ws := (.code y_B_party b_B_party 3 (some .long) :: wAll)) B.pre
  have hts := hts_all hts0
  have hown : s.vm.findClass "ClearingBooks" = some m.cls := findClass_of_methodNamed B.named
  have hlocks := B.notSynchronized
  have hl := lv_entry ([.ref (ad 0), .int (nI i), .int (nI 1)]) (n := 3) (Nat.le_of_ble_eq_true rfl)
  rw [lg_entry_eq]
  generalize (lg_sl ([.ref (ad 0), .int (nI i), .int (nI 1)]) ++ List.replicate (3 - (lg_sl ([.ref (ad 0), .int (nI i), .int (nI 1)])).length) Slot.unset).toArray = ls at hl ⊢
  have hl : lv_has ls 3 [(0, .ref (ad 0)), (1, .int (nI i)), (2, .int (nI 1))] := hl
  refine lv_aload_n hx hb d_B_party_0 rfl (lv_at hl 0 rfl) ?_
  refine lv_iload_n hx hb d_B_party_1 rfl (lv_at hl 1 rfl) ?_
  refine ro_call (va_runV (As := [.int (nI i)]) (rest := []) ⟨hx, hb, hml, hown, hts⟩ (c_isParty_y l dC dI ad cI cJ n tc ki ra po se bc bs op pr pe pm i hi hn) (cwV 1 hts (wAll_v kw_205 kw_207 ks_8 kw_1 kw_208) rfl rfl rfl (by decide +kernel) ⟨Nat.le_of_ble_eq_true rfl, Nat.le_of_ble_eq_true rfl⟩) (ro_preV bl_tt hK hP (ci := 0) (q0 := 0) rfl rfl (fun _ _ _ => trivial)) rfl rfl hl.1 rfl (lv_room (Nat.le_of_ble_eq_true rfl)) d_B_party_2 ⟨Nat.le_of_ble_eq_true rfl, Nat.le_of_ble_eq_true rfl⟩) ?_
  refine W.eq (g2 := F0 m 5 ls [.int (nI 1)]) rfl ?_
  refine lv_if_ne (tgt := 18) hx hb d_B_party_5 (by decide) (fun c1 => ?_) (fun c1 => ?_)
  · refine lv_iload_n hx hb d_B_party_18 rfl (lv_at hl 2 rfl) ?_
    refine lv_tableIn (tgt := 59) (off := 40) hx hb d_B_party_19 (by decide) (by decide) rfl (by decide) ?_
    refine lv_aload_n hx hb d_B_party_59 rfl (lv_at hl 0 rfl) ?_
    refine va_get (D := (dC, dI)) (ci := 0) (v := .ref (ad 4)) (C := "ClearingBooks") (T := T_B) (N := 12) hx hb hts wi_B hown hK hP 0 rfl rfl 4 (by decide) (hts _ kw_21) (fun _ h9 => h9) rfl d_B_party_60 ?_
    refine lv_iload_n hx hb d_B_party_63 rfl (lv_at hl 1 rfl) ?_
    refine xa_laload (f := se) hx hb hK hP 4 1 rfl rfl (j := i) (by omega) (by decide) d_B_party_64 ?_
    exact W.lret (v := se i) hx hb hr (fun t ht hW => ⟨rfl, ht⟩) (fun q hq => by cases hq) d_B_party_65
  · exact absurd c1 (by decide)
set_option maxHeartbeats 4000000 in
set_option maxRecDepth 100000 in
theorem c_party_y2 (l : Launch) (dC : Nat → ClassId) (dI : Nat → Nat → Nat) (ad : Nat → Nat) (cI cJ : ClassId) (n tc : Nat) (ki ra : Nat → Int32) (po se : Nat → Int64) (bc : Nat → Int32) (bs op : Nat → Int64) (pr pe : Nat → Int32) (pm : Nat → Int64) (i : Nat) (hi : i < n) (hn : n ≤ 15) : Met l y_B_party (.code y_B_party b_B_party 3 (some .long) :: wAll) ({ frames := 1, cells := 0, slots := 0, locals := 24 } : Room) (ro_P [.ref (ad 0), .int (nI i), .int (nI 2)] (dC, dI) vwCl [(cI, .int), (cJ, .long)] (cb_w ad cI cJ n tc ki ra po se bc bs op pr pe pm) (fun _ => True)) (ro_Q (some (.long ((ki i).toInt64)))) 0 0 (fun _ => False) := by
  refine Met.ofW (cc := b_B_party) (maxL := 3) (ret := (some .long)) (by decide) rfl ?_
  intro p e s m args below meth c s₁ B hml hv
  obtain ⟨rfl, hP, hK, hB⟩ := hv
  have hx := B.exec
  have hb := B.bytes
  have hr := B.returns
  have hts0 := atoms_spec (ws := (.code y_B_party b_B_party 3 (some .long) :: wAll)) B.pre
  have hts := hts_all hts0
  have hown : s.vm.findClass "ClearingBooks" = some m.cls := findClass_of_methodNamed B.named
  have hlocks := B.notSynchronized
  have hl := lv_entry ([.ref (ad 0), .int (nI i), .int (nI 2)]) (n := 3) (Nat.le_of_ble_eq_true rfl)
  rw [lg_entry_eq]
  generalize (lg_sl ([.ref (ad 0), .int (nI i), .int (nI 2)]) ++ List.replicate (3 - (lg_sl ([.ref (ad 0), .int (nI i), .int (nI 2)])).length) Slot.unset).toArray = ls at hl ⊢
  have hl : lv_has ls 3 [(0, .ref (ad 0)), (1, .int (nI i)), (2, .int (nI 2))] := hl
  refine lv_aload_n hx hb d_B_party_0 rfl (lv_at hl 0 rfl) ?_
  refine lv_iload_n hx hb d_B_party_1 rfl (lv_at hl 1 rfl) ?_
  refine ro_call (va_runV (As := [.int (nI i)]) (rest := []) ⟨hx, hb, hml, hown, hts⟩ (c_isParty_y l dC dI ad cI cJ n tc ki ra po se bc bs op pr pe pm i hi hn) (cwV 1 hts (wAll_v kw_205 kw_207 ks_8 kw_1 kw_208) rfl rfl rfl (by decide +kernel) ⟨Nat.le_of_ble_eq_true rfl, Nat.le_of_ble_eq_true rfl⟩) (ro_preV bl_tt hK hP (ci := 0) (q0 := 0) rfl rfl (fun _ _ _ => trivial)) rfl rfl hl.1 rfl (lv_room (Nat.le_of_ble_eq_true rfl)) d_B_party_2 ⟨Nat.le_of_ble_eq_true rfl, Nat.le_of_ble_eq_true rfl⟩) ?_
  refine W.eq (g2 := F0 m 5 ls [.int (nI 1)]) rfl ?_
  refine lv_if_ne (tgt := 18) hx hb d_B_party_5 (by decide) (fun c1 => ?_) (fun c1 => ?_)
  · refine lv_iload_n hx hb d_B_party_18 rfl (lv_at hl 2 rfl) ?_
    refine lv_tableIn (tgt := 66) (off := 47) hx hb d_B_party_19 (by decide) (by decide) rfl (by decide) ?_
    refine lv_aload_n hx hb d_B_party_66 rfl (lv_at hl 0 rfl) ?_
    refine va_get (D := (dC, dI)) (ci := 0) (v := .ref (ad 1)) (C := "ClearingBooks") (T := T_B) (N := 12) hx hb hts wi_B hown hK hP 0 rfl rfl 1 (by decide) (hts _ kw_18) (fun _ h9 => h9) rfl d_B_party_67 ?_
    refine lv_iload_n hx hb d_B_party_70 rfl (lv_at hl 1 rfl) ?_
    refine xa_iaload (f := ki) hx hb hK hP 1 0 rfl rfl (j := i) (by omega) (by decide) d_B_party_71 ?_
    refine lv_i2l (v := (ki i).toInt64) hx hb d_B_party_72 rfl ?_
    exact W.lret (v := (ki i).toInt64) hx hb hr (fun t ht hW => ⟨rfl, ht⟩) (fun q hq => by cases hq) d_B_party_73
  · exact absurd c1 (by decide)
set_option maxHeartbeats 4000000 in
set_option maxRecDepth 100000 in
theorem c_party_y3 (l : Launch) (dC : Nat → ClassId) (dI : Nat → Nat → Nat) (ad : Nat → Nat) (cI cJ : ClassId) (n tc : Nat) (ki ra : Nat → Int32) (po se : Nat → Int64) (bc : Nat → Int32) (bs op : Nat → Int64) (pr pe : Nat → Int32) (pm : Nat → Int64) (i : Nat) (hi : i < n) (hn : n ≤ 15) : Met l y_B_party (.code y_B_party b_B_party 3 (some .long) :: wAll) ({ frames := 1, cells := 0, slots := 0, locals := 24 } : Room) (ro_P [.ref (ad 0), .int (nI i), .int (nI 3)] (dC, dI) vwCl [(cI, .int), (cJ, .long)] (cb_w ad cI cJ n tc ki ra po se bc bs op pr pe pm) (fun _ => True)) (ro_Q (some (.long ((ra i).toInt64)))) 0 0 (fun _ => False) := by
  refine Met.ofW (cc := b_B_party) (maxL := 3) (ret := (some .long)) (by decide) rfl ?_
  intro p e s m args below meth c s₁ B hml hv
  obtain ⟨rfl, hP, hK, hB⟩ := hv
  have hx := B.exec
  have hb := B.bytes
  have hr := B.returns
  have hts0 := atoms_spec (ws := (.code y_B_party b_B_party 3 (some .long) :: wAll)) B.pre
  have hts := hts_all hts0
  have hown : s.vm.findClass "ClearingBooks" = some m.cls := findClass_of_methodNamed B.named
  have hlocks := B.notSynchronized
  have hl := lv_entry ([.ref (ad 0), .int (nI i), .int (nI 3)]) (n := 3) (Nat.le_of_ble_eq_true rfl)
  rw [lg_entry_eq]
  generalize (lg_sl ([.ref (ad 0), .int (nI i), .int (nI 3)]) ++ List.replicate (3 - (lg_sl ([.ref (ad 0), .int (nI i), .int (nI 3)])).length) Slot.unset).toArray = ls at hl ⊢
  have hl : lv_has ls 3 [(0, .ref (ad 0)), (1, .int (nI i)), (2, .int (nI 3))] := hl
  refine lv_aload_n hx hb d_B_party_0 rfl (lv_at hl 0 rfl) ?_
  refine lv_iload_n hx hb d_B_party_1 rfl (lv_at hl 1 rfl) ?_
  refine ro_call (va_runV (As := [.int (nI i)]) (rest := []) ⟨hx, hb, hml, hown, hts⟩ (c_isParty_y l dC dI ad cI cJ n tc ki ra po se bc bs op pr pe pm i hi hn) (cwV 1 hts (wAll_v kw_205 kw_207 ks_8 kw_1 kw_208) rfl rfl rfl (by decide +kernel) ⟨Nat.le_of_ble_eq_true rfl, Nat.le_of_ble_eq_true rfl⟩) (ro_preV bl_tt hK hP (ci := 0) (q0 := 0) rfl rfl (fun _ _ _ => trivial)) rfl rfl hl.1 rfl (lv_room (Nat.le_of_ble_eq_true rfl)) d_B_party_2 ⟨Nat.le_of_ble_eq_true rfl, Nat.le_of_ble_eq_true rfl⟩) ?_
  refine W.eq (g2 := F0 m 5 ls [.int (nI 1)]) rfl ?_
  refine lv_if_ne (tgt := 18) hx hb d_B_party_5 (by decide) (fun c1 => ?_) (fun c1 => ?_)
  · refine lv_iload_n hx hb d_B_party_18 rfl (lv_at hl 2 rfl) ?_
    refine lv_tableIn (tgt := 74) (off := 55) hx hb d_B_party_19 (by decide) (by decide) rfl (by decide) ?_
    refine lv_aload_n hx hb d_B_party_74 rfl (lv_at hl 0 rfl) ?_
    refine va_get (D := (dC, dI)) (ci := 0) (v := .ref (ad 2)) (C := "ClearingBooks") (T := T_B) (N := 12) hx hb hts wi_B hown hK hP 0 rfl rfl 2 (by decide) (hts _ kw_19) (fun _ h9 => h9) rfl d_B_party_75 ?_
    refine lv_iload_n hx hb d_B_party_78 rfl (lv_at hl 1 rfl) ?_
    refine xa_iaload (f := ra) hx hb hK hP 2 0 rfl rfl (j := i) (by omega) (by decide) d_B_party_79 ?_
    refine lv_i2l (v := (ra i).toInt64) hx hb d_B_party_80 rfl ?_
    exact W.lret (v := (ra i).toInt64) hx hb hr (fun t ht hW => ⟨rfl, ht⟩) (fun q hq => by cases hq) d_B_party_81
  · exact absurd c1 (by decide)
set_option maxHeartbeats 4000000 in
set_option maxRecDepth 100000 in
theorem c_party_y4 (l : Launch) (dC : Nat → ClassId) (dI : Nat → Nat → Nat) (ad : Nat → Nat) (cI cJ : ClassId) (n tc : Nat) (ki ra : Nat → Int32) (po se : Nat → Int64) (bc : Nat → Int32) (bs op : Nat → Int64) (pr pe : Nat → Int32) (pm : Nat → Int64) (i : Nat) (hi : i < n) (hn : n ≤ 15) : Met l y_B_party (.code y_B_party b_B_party 3 (some .long) :: wAll) ({ frames := 1, cells := 0, slots := 0, locals := 24 } : Room) (ro_P [.ref (ad 0), .int (nI i), .int (nI 4)] (dC, dI) vwCl [(cI, .int), (cJ, .long)] (cb_w ad cI cJ n tc ki ra po se bc bs op pr pe pm) (fun _ => True)) (ro_Q (some (.long ((nI (pl po i n)).toInt64)))) 0 0 (fun _ => False) := by
  refine Met.ofW (cc := b_B_party) (maxL := 3) (ret := (some .long)) (by decide) rfl ?_
  intro p e s m args below meth c s₁ B hml hv
  obtain ⟨rfl, hP, hK, hB⟩ := hv
  have hx := B.exec
  have hb := B.bytes
  have hr := B.returns
  have hts0 := atoms_spec (ws := (.code y_B_party b_B_party 3 (some .long) :: wAll)) B.pre
  have hts := hts_all hts0
  have hown : s.vm.findClass "ClearingBooks" = some m.cls := findClass_of_methodNamed B.named
  have hlocks := B.notSynchronized
  have hl := lv_entry ([.ref (ad 0), .int (nI i), .int (nI 4)]) (n := 3) (Nat.le_of_ble_eq_true rfl)
  rw [lg_entry_eq]
  generalize (lg_sl ([.ref (ad 0), .int (nI i), .int (nI 4)]) ++ List.replicate (3 - (lg_sl ([.ref (ad 0), .int (nI i), .int (nI 4)])).length) Slot.unset).toArray = ls at hl ⊢
  have hl : lv_has ls 3 [(0, .ref (ad 0)), (1, .int (nI i)), (2, .int (nI 4))] := hl
  refine lv_aload_n hx hb d_B_party_0 rfl (lv_at hl 0 rfl) ?_
  refine lv_iload_n hx hb d_B_party_1 rfl (lv_at hl 1 rfl) ?_
  refine ro_call (va_runV (As := [.int (nI i)]) (rest := []) ⟨hx, hb, hml, hown, hts⟩ (c_isParty_y l dC dI ad cI cJ n tc ki ra po se bc bs op pr pe pm i hi hn) (cwV 1 hts (wAll_v kw_205 kw_207 ks_8 kw_1 kw_208) rfl rfl rfl (by decide +kernel) ⟨Nat.le_of_ble_eq_true rfl, Nat.le_of_ble_eq_true rfl⟩) (ro_preV bl_tt hK hP (ci := 0) (q0 := 0) rfl rfl (fun _ _ _ => trivial)) rfl rfl hl.1 rfl (lv_room (Nat.le_of_ble_eq_true rfl)) d_B_party_2 ⟨Nat.le_of_ble_eq_true rfl, Nat.le_of_ble_eq_true rfl⟩) ?_
  refine W.eq (g2 := F0 m 5 ls [.int (nI 1)]) rfl ?_
  refine lv_if_ne (tgt := 18) hx hb d_B_party_5 (by decide) (fun c1 => ?_) (fun c1 => ?_)
  · refine lv_iload_n hx hb d_B_party_18 rfl (lv_at hl 2 rfl) ?_
    refine lv_tableIn (tgt := 82) (off := 63) hx hb d_B_party_19 (by decide) (by decide) rfl (by decide) ?_
    refine lv_aload_n hx hb d_B_party_82 rfl (lv_at hl 0 rfl) ?_
    refine lv_iload_n hx hb d_B_party_83 rfl (lv_at hl 1 rfl) ?_
    refine ro_call (va_runV (As := [.int (nI i)]) (rest := []) ⟨hx, hb, hml, hown, hts⟩ (c_placeOf l dC dI ad cI cJ n tc ki ra po se bc bs op pr pe pm i hi hn) (cwV 1 hts (wAll_v kw_262 kw_264 ks_9 kw_1 kw_265) rfl rfl rfl (by decide +kernel) ⟨Nat.le_of_ble_eq_true rfl, Nat.le_of_ble_eq_true rfl⟩) (ro_preV bl_tt hK hP (ci := 0) (q0 := 0) rfl rfl (fun _ _ _ => trivial)) rfl rfl hl.1 rfl (lv_room (Nat.le_of_ble_eq_true rfl)) d_B_party_84 ⟨Nat.le_of_ble_eq_true rfl, Nat.le_of_ble_eq_true rfl⟩) ?_
    refine W.eq (g2 := F0 m 87 ls [.int (nI (pl po i n))]) rfl ?_
    refine lv_i2l (v := (nI (pl po i n)).toInt64) hx hb d_B_party_87 rfl ?_
    exact W.lret (v := (nI (pl po i n)).toInt64) hx hb hr (fun t ht hW => ⟨rfl, ht⟩) (fun q hq => by cases hq) d_B_party_88
  · exact absurd c1 (by decide)
set_option maxHeartbeats 4000000 in
set_option maxRecDepth 100000 in
theorem c_party_tk (l : Launch) (dC : Nat → ClassId) (dI : Nat → Nat → Nat) (ad : Nat → Nat) (cI cJ : ClassId) (n tc : Nat) (ki ra : Nat → Int32) (po se : Nat → Int64) (bc : Nat → Int32) (bs op : Nat → Int64) (pr pe : Nat → Int32) (pm : Nat → Int64) (x k : Int32) (hno : ¬ (¬ x < 0 ∧ x < nI n)) (hl0 : l.stackTraces = false) : xt_Met l y_B_party (.code y_B_party b_B_party 3 (some .long) :: wAll) ({ frames := 6, cells := 1, slots := 6, locals := 90 } : Room) (ro_P [.ref (ad 0), .int x, .int k] (dC, dI) vwCl [(cI, .int), (cJ, .long)] (cb_w ad cI cJ n tc ki ra po se bc bs op pr pe pm) (xc_ok "ClearingBooks" cb_ks)) "java/lang/IllegalArgumentException" 1 6 := by
  refine xt_ofW (cc := b_B_party) (maxL := 3) (ret := (some .long)) (by decide) rfl ?_
  intro p e s m args below meth c s₁ B hml hv
  obtain ⟨rfl, hP, hK, hB⟩ := hv
  have hx := B.exec
  have hb := B.bytes
  have hr := B.returns
  have hts0 := atoms_spec (ws := (.code y_B_party b_B_party 3 (some .long) :: wAll)) B.pre
  have hts := hts_all hts0
  have hown : s.vm.findClass "ClearingBooks" = some m.cls := findClass_of_methodNamed B.named
  have hlocks := B.notSynchronized
  have hnh := B.noHandlers (hts0 _ List.mem_cons_self)
  have hout : ∀ pc9 : Nat, ∀ x ∈ c.exceptionTable.toList, covers x pc9 = false := fun pc9 x hx9 => by rw [xt_nil hnh] at hx9; cases hx9
  have hl := lv_entry ([.ref (ad 0), .int x, .int k]) (n := 3) (Nat.le_of_ble_eq_true rfl)
  rw [lg_entry_eq]
  generalize (lg_sl ([.ref (ad 0), .int x, .int k]) ++ List.replicate (3 - (lg_sl ([.ref (ad 0), .int x, .int k])).length) Slot.unset).toArray = ls at hl ⊢
  have hl : lv_has ls 3 [(0, .ref (ad 0)), (1, .int x), (2, .int k)] := hl
  refine lv_aload_n hx hb d_B_party_0 rfl (lv_at hl 0 rfl) ?_
  refine lv_iload_n hx hb d_B_party_1 rfl (lv_at hl 1 rfl) ?_
  refine ro_call (va_runV (As := [.int x]) (rest := []) ⟨hx, hb, hml, hown, hts⟩ (c_isParty_n l dC dI ad cI cJ n tc ki ra po se bc bs op pr pe pm x hno) (cwV 1 hts (wAll_v kw_205 kw_207 ks_8 kw_1 kw_208) rfl rfl rfl (by decide +kernel) ⟨Nat.le_of_ble_eq_true rfl, Nat.le_of_ble_eq_true rfl⟩) (ro_preV bl_tt hK hP (ci := 0) (q0 := 0) rfl rfl (fun _ _ _ => trivial)) rfl rfl hl.1 rfl (lv_room (Nat.le_of_ble_eq_true rfl)) d_B_party_2 ⟨Nat.le_of_ble_eq_true rfl, Nat.le_of_ble_eq_true rfl⟩) ?_
  refine W.eq (g2 := F0 m 5 ls [.int (nI 0)]) rfl ?_
  refine lv_if_ne (tgt := 18) hx hb d_B_party_5 (by decide) (fun c1 => ?_) (fun c1 => ?_)
  · exact absurd rfl c1
  · obtain ⟨sa, hsa⟩ := hB.2.1 _ (List.mem_of_getElem? (l := cb_ks) (i := 7) rfl)
    exact xt_throw (names := ["java/lang/RuntimeException", "java/lang/Exception"]) hx hb hl0 hown (by decide) (by decide) (hts _ kw_104) (hts _ kw_6) hsa (xc_atoms hB hts at_iae) (by rw [hml]; exact hl.1) (Nat.le_refl _) d_B_party_8 d_B_party_11 d_B_party_12 d_B_party_14 d_B_party_17 (hout _) (Nat.le_of_ble_eq_true rfl) (Nat.le_of_ble_eq_true rfl) (Nat.le_of_ble_eq_true rfl) (Nat.le_of_ble_eq_true rfl) hlocks (Nat.le_of_ble_eq_true rfl) (Nat.le_of_ble_eq_true rfl)
set_option maxHeartbeats 4000000 in
set_option maxRecDepth 100000 in
theorem c_party_tw (l : Launch) (dC : Nat → ClassId) (dI : Nat → Nat → Nat) (ad : Nat → Nat) (cI cJ : ClassId) (n tc : Nat) (ki ra : Nat → Int32) (po se : Nat → Int64) (bc : Nat → Int32) (bs op : Nat → Int64) (pr pe : Nat → Int32) (pm : Nat → Int64) (i : Nat) (k : Int32) (hi : i < n) (hn : n ≤ 15) (hw : k.toInt < 0 ∨ 4 < k.toInt) (hl0 : l.stackTraces = false) : xt_Met l y_B_party (.code y_B_party b_B_party 3 (some .long) :: wAll) ({ frames := 6, cells := 1, slots := 6, locals := 90 } : Room) (ro_P [.ref (ad 0), .int (nI i), .int k] (dC, dI) vwCl [(cI, .int), (cJ, .long)] (cb_w ad cI cJ n tc ki ra po se bc bs op pr pe pm) (xc_ok "ClearingBooks" cb_ks)) "java/lang/IllegalArgumentException" 1 6 := by
  refine xt_ofW (cc := b_B_party) (maxL := 3) (ret := (some .long)) (by decide) rfl ?_
  intro p e s m args below meth c s₁ B hml hv
  obtain ⟨rfl, hP, hK, hB⟩ := hv
  have hx := B.exec
  have hb := B.bytes
  have hr := B.returns
  have hts0 := atoms_spec (ws := (.code y_B_party b_B_party 3 (some .long) :: wAll)) B.pre
  have hts := hts_all hts0
  have hown : s.vm.findClass "ClearingBooks" = some m.cls := findClass_of_methodNamed B.named
  have hlocks := B.notSynchronized
  have hnh := B.noHandlers (hts0 _ List.mem_cons_self)
  have hout : ∀ pc9 : Nat, ∀ x ∈ c.exceptionTable.toList, covers x pc9 = false := fun pc9 x hx9 => by rw [xt_nil hnh] at hx9; cases hx9
  have hl := lv_entry ([.ref (ad 0), .int (nI i), .int k]) (n := 3) (Nat.le_of_ble_eq_true rfl)
  rw [lg_entry_eq]
  generalize (lg_sl ([.ref (ad 0), .int (nI i), .int k]) ++ List.replicate (3 - (lg_sl ([.ref (ad 0), .int (nI i), .int k])).length) Slot.unset).toArray = ls at hl ⊢
  have hl : lv_has ls 3 [(0, .ref (ad 0)), (1, .int (nI i)), (2, .int k)] := hl
  refine lv_aload_n hx hb d_B_party_0 rfl (lv_at hl 0 rfl) ?_
  refine lv_iload_n hx hb d_B_party_1 rfl (lv_at hl 1 rfl) ?_
  refine ro_call (va_runV (As := [.int (nI i)]) (rest := []) ⟨hx, hb, hml, hown, hts⟩ (c_isParty_y l dC dI ad cI cJ n tc ki ra po se bc bs op pr pe pm i hi hn) (cwV 1 hts (wAll_v kw_205 kw_207 ks_8 kw_1 kw_208) rfl rfl rfl (by decide +kernel) ⟨Nat.le_of_ble_eq_true rfl, Nat.le_of_ble_eq_true rfl⟩) (ro_preV bl_tt hK hP (ci := 0) (q0 := 0) rfl rfl (fun _ _ _ => trivial)) rfl rfl hl.1 rfl (lv_room (Nat.le_of_ble_eq_true rfl)) d_B_party_2 ⟨Nat.le_of_ble_eq_true rfl, Nat.le_of_ble_eq_true rfl⟩) ?_
  refine W.eq (g2 := F0 m 5 ls [.int (nI 1)]) rfl ?_
  refine lv_if_ne (tgt := 18) hx hb d_B_party_5 (by decide) (fun c1 => ?_) (fun c1 => ?_)
  · refine lv_iload_n hx hb d_B_party_18 rfl (lv_at hl 2 rfl) ?_
    refine lv_tableOut (tgt := 89) hx hb d_B_party_19 hw (by decide) ?_
    obtain ⟨sa, hsa⟩ := hB.2.1 _ (List.mem_of_getElem? (l := cb_ks) (i := 8) rfl)
    exact xt_throw (names := ["java/lang/RuntimeException", "java/lang/Exception"]) hx hb hl0 hown (by decide) (by decide) (hts _ kw_104) (hts _ kw_6) hsa (xc_atoms hB hts at_iae) (by rw [hml]; exact hl.1) (Nat.le_refl _) d_B_party_89 d_B_party_92 d_B_party_93 d_B_party_95 d_B_party_98 (hout _) (Nat.le_of_ble_eq_true rfl) (Nat.le_of_ble_eq_true rfl) (Nat.le_of_ble_eq_true rfl) (Nat.le_of_ble_eq_true rfl) hlocks (Nat.le_of_ble_eq_true rfl) (Nat.le_of_ble_eq_true rfl)
  · exact absurd c1 (by decide)
