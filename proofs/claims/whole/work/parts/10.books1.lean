/-- the class's cells: the object at ad 0, its rows behind; what they hold -/
abbrev cb_w (ad : Nat → Nat) (cI cJ : ClassId) (n tc : Nat) (ki ra : Nat → Int32) (po se : Nat → Int64) (bc : Nat → Int32) (bs op : Nat → Int64) (pr pe : Nat → Int32) (pm : Nat → Int64) : va_W := [(ad 0, .inr (0, [.int (nI n), .ref (ad 1), .ref (ad 2), .ref (ad 3), .ref (ad 4), .ref (ad 5), .ref (ad 6), .ref (ad 7), .int (nI tc), .ref (ad 8), .ref (ad 9), .ref (ad 10)])), (ad 1, .inl (cI, 15, .inl ki)), (ad 2, .inl (cI, 15, .inl ra)), (ad 3, .inl (cJ, 15, .inr (.inl po))), (ad 4, .inl (cJ, 15, .inr (.inl se))), (ad 5, .inl (cI, 15, .inl bc)), (ad 6, .inl (cJ, 15, .inr (.inl bs))), (ad 7, .inl (cJ, 15, .inr (.inl op))), (ad 8, .inl (cI, 14, .inl pr)), (ad 9, .inl (cI, 14, .inl pe)), (ad 10, .inl (cJ, 14, .inr (.inl pm)))]
set_option maxHeartbeats 4000000 in
set_option maxRecDepth 100000 in
theorem c_isParty_y (l : Launch) (dC : Nat → ClassId) (dI : Nat → Nat → Nat) (ad : Nat → Nat) (cI cJ : ClassId) (n tc : Nat) (ki ra : Nat → Int32) (po se : Nat → Int64) (bc : Nat → Int32) (bs op : Nat → Int64) (pr pe : Nat → Int32) (pm : Nat → Int64) (j : Nat) (hj : j < n) (hn : n ≤ 15) : Met l y_B_isParty (.code y_B_isParty b_B_isParty 2 (some .boolean) :: wAll) ({ frames := 0, cells := 0, slots := 0, locals := 0 } : Room) (ro_P [.ref (ad 0), .int (nI j)] (dC, dI) vwCl [(cI, .int), (cJ, .long)] (cb_w ad cI cJ n tc ki ra po se bc bs op pr pe pm) (fun _ => True)) (ro_Q (some (.int (nI 1)))) 0 0 (fun _ => False) := by
  refine Met.ofW (cc := b_B_isParty) (maxL := 2) (ret := (some .boolean)) (by decide) rfl ?_
  intro p e s m args below meth c s₁ B hml hv
  obtain ⟨rfl, hP, hK, hB⟩ := hv
  have hx := B.exec
  have hb := B.bytes
  have hr := B.returns
  have hts0 := atoms_spec (ws := (.code y_B_isParty b_B_isParty 2 (some .boolean) :: wAll)) B.pre
  have hts := hts_all hts0
  have hown : s.vm.findClass "ClearingBooks" = some m.cls := findClass_of_methodNamed B.named
  have hlocks := B.notSynchronized
  have hl := lv_entry ([.ref (ad 0), .int (nI j)]) (n := 2) (Nat.le_of_ble_eq_true rfl)
  rw [lg_entry_eq]
  generalize (lg_sl ([.ref (ad 0), .int (nI j)]) ++ List.replicate (2 - (lg_sl ([.ref (ad 0), .int (nI j)])).length) Slot.unset).toArray = ls at hl ⊢
  have hl : lv_has ls 2 [(0, .ref (ad 0)), (1, .int (nI j))] := hl
  refine lv_iload_n hx hb d_B_isParty_0 rfl (lv_at hl 1 rfl) ?_
  refine lv_if_lt (tgt := 16) hx hb d_B_isParty_1 (by decide) (fun c1 => ?_) (fun c1 => ?_)
  · exact absurd c1 (nI_pos (by omega))
  · refine lv_iload_n hx hb d_B_isParty_4 rfl (lv_at hl 1 rfl) ?_
    refine lv_aload_n hx hb d_B_isParty_5 rfl (lv_at hl 0 rfl) ?_
    refine va_get (D := (dC, dI)) (ci := 0) (v := .int (nI n)) (C := "ClearingBooks") (T := T_B) (N := 12) hx hb hts wi_B hown hK hP 0 rfl rfl 0 (by decide) (hts _ kw_17) (fun _ h9 => h9) rfl d_B_isParty_6 ?_
    refine lv_icmp_ge (tgt := 16) hx hb d_B_isParty_9 (by decide) (fun c2 => ?_) (fun c2 => ?_)
    · replace c2 := (nI_leI (by omega) (by omega)).mp c2
      exfalso; omega
    · replace c2 := mt (nI_leI (by omega) (by omega)).mpr c2
      refine lv_iconst (v := nI 1) hx hb d_B_isParty_12 (by decide) ?_
      refine lv_goto (tgt := 17) hx hb d_B_isParty_13 (by decide) ?_
      exact W.zret (v := nI 1) hx hb hr rfl (fun t ht hW => ⟨rfl, ht⟩) (fun q hq => by cases hq) d_B_isParty_17
set_option maxHeartbeats 4000000 in
set_option maxRecDepth 100000 in
theorem c_isParty_n (l : Launch) (dC : Nat → ClassId) (dI : Nat → Nat → Nat) (ad : Nat → Nat) (cI cJ : ClassId) (n tc : Nat) (ki ra : Nat → Int32) (po se : Nat → Int64) (bc : Nat → Int32) (bs op : Nat → Int64) (pr pe : Nat → Int32) (pm : Nat → Int64) (x : Int32) (hno : ¬ (¬ x < 0 ∧ x < nI n)) : Met l y_B_isParty (.code y_B_isParty b_B_isParty 2 (some .boolean) :: wAll) ({ frames := 0, cells := 0, slots := 0, locals := 0 } : Room) (ro_P [.ref (ad 0), .int x] (dC, dI) vwCl [(cI, .int), (cJ, .long)] (cb_w ad cI cJ n tc ki ra po se bc bs op pr pe pm) (fun _ => True)) (ro_Q (some (.int (nI 0)))) 0 0 (fun _ => False) := by
  refine Met.ofW (cc := b_B_isParty) (maxL := 2) (ret := (some .boolean)) (by decide) rfl ?_
  intro p e s m args below meth c s₁ B hml hv
  obtain ⟨rfl, hP, hK, hB⟩ := hv
  have hx := B.exec
  have hb := B.bytes
  have hr := B.returns
  have hts0 := atoms_spec (ws := (.code y_B_isParty b_B_isParty 2 (some .boolean) :: wAll)) B.pre
  have hts := hts_all hts0
  have hown : s.vm.findClass "ClearingBooks" = some m.cls := findClass_of_methodNamed B.named
  have hlocks := B.notSynchronized
  have hl := lv_entry ([.ref (ad 0), .int x]) (n := 2) (Nat.le_of_ble_eq_true rfl)
  rw [lg_entry_eq]
  generalize (lg_sl ([.ref (ad 0), .int x]) ++ List.replicate (2 - (lg_sl ([.ref (ad 0), .int x])).length) Slot.unset).toArray = ls at hl ⊢
  have hl : lv_has ls 2 [(0, .ref (ad 0)), (1, .int x)] := hl
  refine lv_iload_n hx hb d_B_isParty_0 rfl (lv_at hl 1 rfl) ?_
  refine lv_if_lt (tgt := 16) hx hb d_B_isParty_1 (by decide) (fun c1 => ?_) (fun c1 => ?_)
  · refine lv_iconst (v := nI 0) hx hb d_B_isParty_16 (by decide) ?_
    exact W.zret (v := nI 0) hx hb hr rfl (fun t ht hW => ⟨rfl, ht⟩) (fun q hq => by cases hq) d_B_isParty_17
  · refine lv_iload_n hx hb d_B_isParty_4 rfl (lv_at hl 1 rfl) ?_
    refine lv_aload_n hx hb d_B_isParty_5 rfl (lv_at hl 0 rfl) ?_
    refine va_get (D := (dC, dI)) (ci := 0) (v := .int (nI n)) (C := "ClearingBooks") (T := T_B) (N := 12) hx hb hts wi_B hown hK hP 0 rfl rfl 0 (by decide) (hts _ kw_17) (fun _ h9 => h9) rfl d_B_isParty_6 ?_
    refine lv_icmp_ge (tgt := 16) hx hb d_B_isParty_9 (by decide) (fun c2 => ?_) (fun c2 => ?_)
    · refine lv_iconst (v := nI 0) hx hb d_B_isParty_16 (by decide) ?_
      exact W.zret (v := nI 0) hx hb hr rfl (fun t ht hW => ⟨rfl, ht⟩) (fun q hq => by cases hq) d_B_isParty_17
    · exact absurd ⟨c1, Int32.not_le.mp c2⟩ hno
set_option maxHeartbeats 4000000 in
set_option maxRecDepth 100000 in
theorem c_requireKind_y (l : Launch) (dC : Nat → ClassId) (dI : Nat → Nat → Nat) (ad : Nat → Nat) (cI cJ : ClassId) (n tc : Nat) (ki ra : Nat → Int32) (po se : Nat → Int64) (bc : Nat → Int32) (bs op : Nat → Int64) (pr pe : Nat → Int32) (pm : Nat → Int64) (j : Nat) (k : Int32) (hj : j < n) (hn : n ≤ 15) (hk : ki j = k) : Met l y_B_requireKind (.code y_B_requireKind b_B_requireKind 3 none :: wAll) ({ frames := 1, cells := 0, slots := 0, locals := 21 } : Room) (ro_P [.ref (ad 0), .int (nI j), .int k] (dC, dI) vwCl [(cI, .int), (cJ, .long)] (cb_w ad cI cJ n tc ki ra po se bc bs op pr pe pm) (fun _ => True)) (ro_Q none) 0 0 (fun _ => False) := by
  refine Met.ofW (cc := b_B_requireKind) (maxL := 3) (ret := none) (by decide) rfl ?_
  intro p e s m args below meth c s₁ B hml hv
  obtain ⟨rfl, hP, hK, hB⟩ := hv
  have hx := B.exec
  have hb := B.bytes
  have hr := B.returns
  have hts0 := atoms_spec (ws := (.code y_B_requireKind b_B_requireKind 3 none :: wAll)) B.pre
  have hts := hts_all hts0
  have hown : s.vm.findClass "ClearingBooks" = some m.cls := findClass_of_methodNamed B.named
  have hlocks := B.notSynchronized
  have hl := lv_entry ([.ref (ad 0), .int (nI j), .int k]) (n := 3) (Nat.le_of_ble_eq_true rfl)
  rw [lg_entry_eq]
  generalize (lg_sl ([.ref (ad 0), .int (nI j), .int k]) ++ List.replicate (3 - (lg_sl ([.ref (ad 0), .int (nI j), .int k])).length) Slot.unset).toArray = ls at hl ⊢
  have hl : lv_has ls 3 [(0, .ref (ad 0)), (1, .int (nI j)), (2, .int k)] := hl
  refine lv_aload_n hx hb d_B_requireKind_0 rfl (lv_at hl 0 rfl) ?_
  refine lv_iload_n hx hb d_B_requireKind_1 rfl (lv_at hl 1 rfl) ?_
  refine ro_call (va_runV (As := [.int (nI j)]) (rest := []) ⟨hx, hb, hml, hown, hts⟩ (c_isParty_y l dC dI ad cI cJ n tc ki ra po se bc bs op pr pe pm j hj hn) (cwV 1 hts (wAll_v kw_205 kw_207 ks_8 kw_1 kw_208) rfl rfl rfl (by decide +kernel) ⟨Nat.le_of_ble_eq_true rfl, Nat.le_of_ble_eq_true rfl⟩) (ro_preV bl_tt hK hP (ci := 0) (q0 := 0) rfl rfl (fun _ _ _ => trivial)) rfl rfl hl.1 rfl (lv_room (Nat.le_of_ble_eq_true rfl)) d_B_requireKind_2 ⟨Nat.le_of_ble_eq_true rfl, Nat.le_of_ble_eq_true rfl⟩) ?_
  refine W.eq (g2 := F0 m 5 ls [.int (nI 1)]) rfl ?_
  refine lv_if_eq (tgt := 18) hx hb d_B_requireKind_5 (by decide) (fun c1 => ?_) (fun c1 => ?_)
  · exact absurd c1 (by decide)
  · refine lv_aload_n hx hb d_B_requireKind_8 rfl (lv_at hl 0 rfl) ?_
    refine va_get (D := (dC, dI)) (ci := 0) (v := .ref (ad 1)) (C := "ClearingBooks") (T := T_B) (N := 12) hx hb hts wi_B hown hK hP 0 rfl rfl 1 (by decide) (hts _ kw_18) (fun _ h9 => h9) rfl d_B_requireKind_9 ?_
    refine lv_iload_n hx hb d_B_requireKind_12 rfl (lv_at hl 1 rfl) ?_
    refine xa_iaload (f := ki) hx hb hK hP 1 0 rfl rfl (j := j) (by omega) (by decide) d_B_requireKind_13 ?_
    refine lv_iload_n hx hb d_B_requireKind_14 rfl (lv_at hl 2 rfl) ?_
    refine lv_icmp_eq (tgt := 28) hx hb d_B_requireKind_15 (by decide) (fun c2 => ?_) (fun c2 => ?_)
    · exact W.vret hx hb hr (fun t ht hW => ⟨rfl, ht⟩) (fun q hq => by cases hq) d_B_requireKind_28
    · exact absurd hk c2
set_option maxHeartbeats 4000000 in
set_option maxRecDepth 100000 in
theorem c_requireKind_tn (l : Launch) (dC : Nat → ClassId) (dI : Nat → Nat → Nat) (ad : Nat → Nat) (cI cJ : ClassId) (n tc : Nat) (ki ra : Nat → Int32) (po se : Nat → Int64) (bc : Nat → Int32) (bs op : Nat → Int64) (pr pe : Nat → Int32) (pm : Nat → Int64) (x k : Int32) (hno : ¬ (¬ x < 0 ∧ x < nI n)) (hl0 : l.stackTraces = false) : xt_Met l y_B_requireKind (.code y_B_requireKind b_B_requireKind 3 none :: wAll) ({ frames := 6, cells := 1, slots := 6, locals := 90 } : Room) (ro_P [.ref (ad 0), .int x, .int k] (dC, dI) vwCl [(cI, .int), (cJ, .long)] (cb_w ad cI cJ n tc ki ra po se bc bs op pr pe pm) (xc_ok "ClearingBooks" cb_ks)) "java/lang/IllegalArgumentException" 1 6 := by
  refine xt_ofW (cc := b_B_requireKind) (maxL := 3) (ret := none) (by decide) rfl ?_
  intro p e s m args below meth c s₁ B hml hv
  obtain ⟨rfl, hP, hK, hB⟩ := hv
  have hx := B.exec
  have hb := B.bytes
  have hr := B.returns
  have hts0 := atoms_spec (ws := (.code y_B_requireKind b_B_requireKind 3 none :: wAll)) B.pre
  have hts := hts_all hts0
  have hown : s.vm.findClass "ClearingBooks" = some m.cls := findClass_of_methodNamed B.named
  have hlocks := B.notSynchronized
  have hnh := B.noHandlers (hts0 _ List.mem_cons_self)
  have hout : ∀ pc9 : Nat, ∀ x ∈ c.exceptionTable.toList, covers x pc9 = false := fun pc9 x hx9 => by rw [xt_nil hnh] at hx9; cases hx9
  have hl := lv_entry ([.ref (ad 0), .int x, .int k]) (n := 3) (Nat.le_of_ble_eq_true rfl)
  rw [lg_entry_eq]
  generalize (lg_sl ([.ref (ad 0), .int x, .int k]) ++ List.replicate (3 - (lg_sl ([.ref (ad 0), .int x, .int k])).length) Slot.unset).toArray = ls at hl ⊢
  have hl : lv_has ls 3 [(0, .ref (ad 0)), (1, .int x), (2, .int k)] := hl
  refine lv_aload_n hx hb d_B_requireKind_0 rfl (lv_at hl 0 rfl) ?_
  refine lv_iload_n hx hb d_B_requireKind_1 rfl (lv_at hl 1 rfl) ?_
  refine ro_call (va_runV (As := [.int x]) (rest := []) ⟨hx, hb, hml, hown, hts⟩ (c_isParty_n l dC dI ad cI cJ n tc ki ra po se bc bs op pr pe pm x hno) (cwV 1 hts (wAll_v kw_205 kw_207 ks_8 kw_1 kw_208) rfl rfl rfl (by decide +kernel) ⟨Nat.le_of_ble_eq_true rfl, Nat.le_of_ble_eq_true rfl⟩) (ro_preV bl_tt hK hP (ci := 0) (q0 := 0) rfl rfl (fun _ _ _ => trivial)) rfl rfl hl.1 rfl (lv_room (Nat.le_of_ble_eq_true rfl)) d_B_requireKind_2 ⟨Nat.le_of_ble_eq_true rfl, Nat.le_of_ble_eq_true rfl⟩) ?_
  refine W.eq (g2 := F0 m 5 ls [.int (nI 0)]) rfl ?_
  refine lv_if_eq (tgt := 18) hx hb d_B_requireKind_5 (by decide) (fun c1 => ?_) (fun c1 => ?_)
  · obtain ⟨sa, hsa⟩ := hB.2.1 _ (List.mem_of_getElem? (l := cb_ks) (i := 2) rfl)
    exact xt_throw (names := ["java/lang/RuntimeException", "java/lang/Exception"]) hx hb hl0 hown (by decide) (by decide) (hts _ kw_104) (hts _ kw_6) hsa (xc_atoms hB hts at_iae) (by rw [hml]; exact hl.1) (Nat.le_refl _) d_B_requireKind_18 d_B_requireKind_21 d_B_requireKind_22 d_B_requireKind_24 d_B_requireKind_27 (hout _) (Nat.le_of_ble_eq_true rfl) (Nat.le_of_ble_eq_true rfl) (Nat.le_of_ble_eq_true rfl) (Nat.le_of_ble_eq_true rfl) hlocks (Nat.le_of_ble_eq_true rfl) (Nat.le_of_ble_eq_true rfl)
  · exact absurd rfl c1
set_option maxHeartbeats 4000000 in
set_option maxRecDepth 100000 in
theorem c_requireKind_tk (l : Launch) (dC : Nat → ClassId) (dI : Nat → Nat → Nat) (ad : Nat → Nat) (cI cJ : ClassId) (n tc : Nat) (ki ra : Nat → Int32) (po se : Nat → Int64) (bc : Nat → Int32) (bs op : Nat → Int64) (pr pe : Nat → Int32) (pm : Nat → Int64) (j : Nat) (k : Int32) (hj : j < n) (hn : n ≤ 15) (hk : ¬ ki j = k) (hl0 : l.stackTraces = false) : xt_Met l y_B_requireKind (.code y_B_requireKind b_B_requireKind 3 none :: wAll) ({ frames := 6, cells := 1, slots := 6, locals := 90 } : Room) (ro_P [.ref (ad 0), .int (nI j), .int k] (dC, dI) vwCl [(cI, .int), (cJ, .long)] (cb_w ad cI cJ n tc ki ra po se bc bs op pr pe pm) (xc_ok "ClearingBooks" cb_ks)) "java/lang/IllegalArgumentException" 1 6 := by
  refine xt_ofW (cc := b_B_requireKind) (maxL := 3) (ret := none) (by decide) rfl ?_
  intro p e s m args below meth c s₁ B hml hv
  obtain ⟨rfl, hP, hK, hB⟩ := hv
  have hx := B.exec
  have hb := B.bytes
  have hr := B.returns
  have hts0 := atoms_spec (ws := (.code y_B_requireKind b_B_requireKind 3 none :: wAll)) B.pre
  have hts := hts_all hts0
  have hown : s.vm.findClass "ClearingBooks" = some m.cls := findClass_of_methodNamed B.named
  have hlocks := B.notSynchronized
  have hnh := B.noHandlers (hts0 _ List.mem_cons_self)
  have hout : ∀ pc9 : Nat, ∀ x ∈ c.exceptionTable.toList, covers x pc9 = false := fun pc9 x hx9 => by rw [xt_nil hnh] at hx9; cases hx9
  have hl := lv_entry ([.ref (ad 0), .int (nI j), .int k]) (n := 3) (Nat.le_of_ble_eq_true rfl)
  rw [lg_entry_eq]
  generalize (lg_sl ([.ref (ad 0), .int (nI j), .int k]) ++ List.replicate (3 - (lg_sl ([.ref (ad 0), .int (nI j), .int k])).length) Slot.unset).toArray = ls at hl ⊢
  have hl : lv_has ls 3 [(0, .ref (ad 0)), (1, .int (nI j)), (2, .int k)] := hl
  refine lv_aload_n hx hb d_B_requireKind_0 rfl (lv_at hl 0 rfl) ?_
  refine lv_iload_n hx hb d_B_requireKind_1 rfl (lv_at hl 1 rfl) ?_
  refine ro_call (va_runV (As := [.int (nI j)]) (rest := []) ⟨hx, hb, hml, hown, hts⟩ (c_isParty_y l dC dI ad cI cJ n tc ki ra po se bc bs op pr pe pm j hj hn) (cwV 1 hts (wAll_v kw_205 kw_207 ks_8 kw_1 kw_208) rfl rfl rfl (by decide +kernel) ⟨Nat.le_of_ble_eq_true rfl, Nat.le_of_ble_eq_true rfl⟩) (ro_preV bl_tt hK hP (ci := 0) (q0 := 0) rfl rfl (fun _ _ _ => trivial)) rfl rfl hl.1 rfl (lv_room (Nat.le_of_ble_eq_true rfl)) d_B_requireKind_2 ⟨Nat.le_of_ble_eq_true rfl, Nat.le_of_ble_eq_true rfl⟩) ?_
  refine W.eq (g2 := F0 m 5 ls [.int (nI 1)]) rfl ?_
  refine lv_if_eq (tgt := 18) hx hb d_B_requireKind_5 (by decide) (fun c1 => ?_) (fun c1 => ?_)
  · exact absurd c1 (by decide)
  · refine lv_aload_n hx hb d_B_requireKind_8 rfl (lv_at hl 0 rfl) ?_
    refine va_get (D := (dC, dI)) (ci := 0) (v := .ref (ad 1)) (C := "ClearingBooks") (T := T_B) (N := 12) hx hb hts wi_B hown hK hP 0 rfl rfl 1 (by decide) (hts _ kw_18) (fun _ h9 => h9) rfl d_B_requireKind_9 ?_
    refine lv_iload_n hx hb d_B_requireKind_12 rfl (lv_at hl 1 rfl) ?_
    refine xa_iaload (f := ki) hx hb hK hP 1 0 rfl rfl (j := j) (by omega) (by decide) d_B_requireKind_13 ?_
    refine lv_iload_n hx hb d_B_requireKind_14 rfl (lv_at hl 2 rfl) ?_
    refine lv_icmp_eq (tgt := 28) hx hb d_B_requireKind_15 (by decide) (fun c2 => ?_) (fun c2 => ?_)
    · exact absurd c2 hk
    · obtain ⟨sa, hsa⟩ := hB.2.1 _ (List.mem_of_getElem? (l := cb_ks) (i := 2) rfl)
      exact xt_throw (names := ["java/lang/RuntimeException", "java/lang/Exception"]) hx hb hl0 hown (by decide) (by decide) (hts _ kw_104) (hts _ kw_6) hsa (xc_atoms hB hts at_iae) (by rw [hml]; exact hl.1) (Nat.le_refl _) d_B_requireKind_18 d_B_requireKind_21 d_B_requireKind_22 d_B_requireKind_24 d_B_requireKind_27 (hout _) (Nat.le_of_ble_eq_true rfl) (Nat.le_of_ble_eq_true rfl) (Nat.le_of_ble_eq_true rfl) (Nat.le_of_ble_eq_true rfl) hlocks (Nat.le_of_ble_eq_true rfl) (Nat.le_of_ble_eq_true rfl)
/-- there is such a party of this kind -/
def is_k (n : Nat) (ki : Nat → Int32) (x k : Int32) : Prop := ∃ j, j < n ∧ x = nI j ∧ ki j = k
set_option maxHeartbeats 4000000 in
set_option maxRecDepth 100000 in
theorem c_requireKind_t (l : Launch) (dC : Nat → ClassId) (dI : Nat → Nat → Nat) (ad : Nat → Nat) (cI cJ : ClassId) (n tc : Nat) (ki ra : Nat → Int32) (po se : Nat → Int64) (bc : Nat → Int32) (bs op : Nat → Int64) (pr pe : Nat → Int32) (pm : Nat → Int64) (x k : Int32) (hn : n ≤ 15) (hno : ¬ is_k n ki x k) (hl0 : l.stackTraces = false) : xt_Met l y_B_requireKind (.code y_B_requireKind b_B_requireKind 3 none :: wAll) ({ frames := 6, cells := 1, slots := 6, locals := 90 } : Room) (ro_P [.ref (ad 0), .int x, .int k] (dC, dI) vwCl [(cI, .int), (cJ, .long)] (cb_w ad cI cJ n tc ki ra po se bc bs op pr pe pm) (xc_ok "ClearingBooks" cb_ks)) "java/lang/IllegalArgumentException" 1 6 := by
  by_cases h : ¬ x < 0 ∧ x < nI n
  · obtain ⟨j, hj, rfl⟩ := nI_of h.1
    have hjn : j < n := (nI_ltI hj (by omega)).mp h.2
    exact c_requireKind_tk l dC dI ad cI cJ n tc ki ra po se bc bs op pr pe pm j k hjn hn (fun h9 => hno ⟨j, hjn, rfl, h9⟩) hl0
  · exact c_requireKind_tn l dC dI ad cI cJ n tc ki ra po se bc bs op pr pe pm x k h hl0
set_option maxHeartbeats 4000000 in
set_option maxRecDepth 100000 in
theorem c_requireAmount_y (l : Launch) (dC : Nat → ClassId) (dI : Nat → Nat → Nat) (ad : Nat → Nat) (cI cJ : ClassId) (n tc : Nat) (ki ra : Nat → Int32) (po se : Nat → Int64) (bc : Nat → Int32) (bs op : Nat → Int64) (pr pe : Nat → Int32) (pm : Nat → Int64) (x k : Int64) (h1 : ¬ x < k) (h2 : ¬ 1000000000000 < x) : Met l y_B_requireAmount (.code y_B_requireAmount b_B_requireAmount 4 none :: wAll) ({ frames := 0, cells := 0, slots := 0, locals := 0 } : Room) (ro_P [.long x, .long k] (dC, dI) vwCl [(cI, .int), (cJ, .long)] (cb_w ad cI cJ n tc ki ra po se bc bs op pr pe pm) (fun _ => True)) (ro_Q none) 0 0 (fun _ => False) := by
  refine Met.ofW (cc := b_B_requireAmount) (maxL := 4) (ret := none) (by decide) rfl ?_
  intro p e s m args below meth c s₁ B hml hv
  obtain ⟨rfl, hP, hK, hB⟩ := hv
  have hx := B.exec
  have hb := B.bytes
  have hr := B.returns
  have hts0 := atoms_spec (ws := (.code y_B_requireAmount b_B_requireAmount 4 none :: wAll)) B.pre
  have hts := hts_all hts0
  have hown : s.vm.findClass "ClearingBooks" = some m.cls := findClass_of_methodNamed B.named
  have hlocks := B.notSynchronized
  have hl := lv_entry ([.long x, .long k]) (n := 4) (Nat.le_of_ble_eq_true rfl)
  rw [lg_entry_eq]
  generalize (lg_sl ([.long x, .long k]) ++ List.replicate (4 - (lg_sl ([.long x, .long k])).length) Slot.unset).toArray = ls at hl ⊢
  have hl : lv_has ls 4 [(0, .long x), (2, .long k)] := hl
  refine lv_lload_n hx hb d_B_requireAmount_0 rfl (lv_at hl 0 rfl) ?_
  refine lv_lload_n hx hb d_B_requireAmount_1 rfl (lv_at hl 1 rfl) ?_
  refine W.lcmp hx hb d_B_requireAmount_2 ?_
  refine lv_if_lt (tgt := 14) hx hb d_B_requireAmount_3 (by decide) (fun c1 => ?_) (fun c1 => ?_)
  · replace c1 := (lg_cmp_lt _ _).mp c1
    exact absurd c1 h1
  · replace c1 := mt (lg_cmp_lt _ _).mpr c1
    refine lv_lload_n hx hb d_B_requireAmount_6 rfl (lv_at hl 0 rfl) ?_
    refine lv_ldc2 (v := 1000000000000) hx hb hown (hts _ kw_213) d_B_requireAmount_7 ?_
    refine W.lcmp hx hb d_B_requireAmount_10 ?_
    refine lv_if_le (tgt := 24) hx hb d_B_requireAmount_11 (by decide) (fun c2 => ?_) (fun c2 => ?_)
    · replace c2 := (lg_cmp_le _ _).mp c2
      exact W.vret hx hb hr (fun t ht hW => ⟨rfl, ht⟩) (fun q hq => by cases hq) d_B_requireAmount_24
    · replace c2 := mt (lg_cmp_le _ _).mpr c2
      exact absurd (Int64.not_le.mp c2) h2
set_option maxHeartbeats 4000000 in
set_option maxRecDepth 100000 in
theorem c_requireAmount_t (l : Launch) (dC : Nat → ClassId) (dI : Nat → Nat → Nat) (ad : Nat → Nat) (cI cJ : ClassId) (n tc : Nat) (ki ra : Nat → Int32) (po se : Nat → Int64) (bc : Nat → Int32) (bs op : Nat → Int64) (pr pe : Nat → Int32) (pm : Nat → Int64) (x k : Int64) (hno : ¬ (¬ x < k ∧ ¬ 1000000000000 < x)) (hl0 : l.stackTraces = false) : xt_Met l y_B_requireAmount (.code y_B_requireAmount b_B_requireAmount 4 none :: wAll) ({ frames := 6, cells := 1, slots := 6, locals := 90 } : Room) (ro_P [.long x, .long k] (dC, dI) vwCl [(cI, .int), (cJ, .long)] (cb_w ad cI cJ n tc ki ra po se bc bs op pr pe pm) (xc_ok "ClearingBooks" cb_ks)) "java/lang/IllegalArgumentException" 1 6 := by
  refine xt_ofW (cc := b_B_requireAmount) (maxL := 4) (ret := none) (by decide) rfl ?_
  intro p e s m args below meth c s₁ B hml hv
  obtain ⟨rfl, hP, hK, hB⟩ := hv
  have hx := B.exec
  have hb := B.bytes
  have hr := B.returns
  have hts0 := atoms_spec (ws := (.code y_B_requireAmount b_B_requireAmount 4 none :: wAll)) B.pre
  have hts := hts_all hts0
  have hown : s.vm.findClass "ClearingBooks" = some m.cls := findClass_of_methodNamed B.named
  have hlocks := B.notSynchronized
  have hnh := B.noHandlers (hts0 _ List.mem_cons_self)
  have hout : ∀ pc9 : Nat, ∀ x ∈ c.exceptionTable.toList, covers x pc9 = false := fun pc9 x hx9 => by rw [xt_nil hnh] at hx9; cases hx9
  have hl := lv_entry ([.long x, .long k]) (n := 4) (Nat.le_of_ble_eq_true rfl)
  rw [lg_entry_eq]
  generalize (lg_sl ([.long x, .long k]) ++ List.replicate (4 - (lg_sl ([.long x, .long k])).length) Slot.unset).toArray = ls at hl ⊢
  have hl : lv_has ls 4 [(0, .long x), (2, .long k)] := hl
  refine lv_lload_n hx hb d_B_requireAmount_0 rfl (lv_at hl 0 rfl) ?_
  refine lv_lload_n hx hb d_B_requireAmount_1 rfl (lv_at hl 1 rfl) ?_
  refine W.lcmp hx hb d_B_requireAmount_2 ?_
  refine lv_if_lt (tgt := 14) hx hb d_B_requireAmount_3 (by decide) (fun c1 => ?_) (fun c1 => ?_)
  · replace c1 := (lg_cmp_lt _ _).mp c1
    obtain ⟨sa, hsa⟩ := hB.2.1 _ (List.mem_of_getElem? (l := cb_ks) (i := 3) rfl)
    exact xt_throw (names := ["java/lang/RuntimeException", "java/lang/Exception"]) hx hb hl0 hown (by decide) (by decide) (hts _ kw_104) (hts _ kw_6) hsa (xc_atoms hB hts at_iae) (by rw [hml]; exact hl.1) (Nat.le_refl _) d_B_requireAmount_14 d_B_requireAmount_17 d_B_requireAmount_18 d_B_requireAmount_20 d_B_requireAmount_23 (hout _) (Nat.le_of_ble_eq_true rfl) (Nat.le_of_ble_eq_true rfl) (Nat.le_of_ble_eq_true rfl) (Nat.le_of_ble_eq_true rfl) hlocks (Nat.le_of_ble_eq_true rfl) (Nat.le_of_ble_eq_true rfl)
  · replace c1 := mt (lg_cmp_lt _ _).mpr c1
    refine lv_lload_n hx hb d_B_requireAmount_6 rfl (lv_at hl 0 rfl) ?_
    refine lv_ldc2 (v := 1000000000000) hx hb hown (hts _ kw_213) d_B_requireAmount_7 ?_
    refine W.lcmp hx hb d_B_requireAmount_10 ?_
    refine lv_if_le (tgt := 24) hx hb d_B_requireAmount_11 (by decide) (fun c2 => ?_) (fun c2 => ?_)
    · replace c2 := (lg_cmp_le _ _).mp c2
      exact absurd ⟨c1, Int64.not_lt.mpr c2⟩ hno
    · replace c2 := mt (lg_cmp_le _ _).mpr c2
      obtain ⟨sa, hsa⟩ := hB.2.1 _ (List.mem_of_getElem? (l := cb_ks) (i := 3) rfl)
      exact xt_throw (names := ["java/lang/RuntimeException", "java/lang/Exception"]) hx hb hl0 hown (by decide) (by decide) (hts _ kw_104) (hts _ kw_6) hsa (xc_atoms hB hts at_iae) (by rw [hml]; exact hl.1) (Nat.le_refl _) d_B_requireAmount_14 d_B_requireAmount_17 d_B_requireAmount_18 d_B_requireAmount_20 d_B_requireAmount_23 (hout _) (Nat.le_of_ble_eq_true rfl) (Nat.le_of_ble_eq_true rfl) (Nat.le_of_ble_eq_true rfl) (Nat.le_of_ble_eq_true rfl) hlocks (Nat.le_of_ble_eq_true rfl) (Nat.le_of_ble_eq_true rfl)
set_option maxHeartbeats 4000000 in
set_option maxRecDepth 100000 in
theorem c_partRoundedDown (l : Launch) (dC : Nat → ClassId) (dI : Nat → Nat → Nat) (ad : Nat → Nat) (cI cJ : ClassId) (n tc : Nat) (ki ra : Nat → Int32) (po se : Nat → Int64) (bc : Nat → Int32) (bs op : Nat → Int64) (pr pe : Nat → Int32) (pm : Nat → Int64) (x : Int64) (k : Int32) : Met l y_B_partRoundedDown (.code y_B_partRoundedDown b_B_partRoundedDown 3 (some .long) :: wAll) ({ frames := 0, cells := 0, slots := 0, locals := 0 } : Room) (ro_P [.long x, .int k] (dC, dI) vwCl [(cI, .int), (cJ, .long)] (cb_w ad cI cJ n tc ki ra po se bc bs op pr pe pm) (fun _ => True)) (ro_Q (some (.long (x * k.toInt64 / 10000)))) 0 0 (fun _ => False) := by
  refine Met.ofW (cc := b_B_partRoundedDown) (maxL := 3) (ret := (some .long)) (by decide) rfl ?_
  intro p e s m args below meth c s₁ B hml hv
  obtain ⟨rfl, hP, hK, hB⟩ := hv
  have hx := B.exec
  have hb := B.bytes
  have hr := B.returns
  have hts0 := atoms_spec (ws := (.code y_B_partRoundedDown b_B_partRoundedDown 3 (some .long) :: wAll)) B.pre
  have hts := hts_all hts0
  have hown : s.vm.findClass "ClearingBooks" = some m.cls := findClass_of_methodNamed B.named
  have hlocks := B.notSynchronized
  have hl := lv_entry ([.long x, .int k]) (n := 3) (Nat.le_of_ble_eq_true rfl)
  rw [lg_entry_eq]
  generalize (lg_sl ([.long x, .int k]) ++ List.replicate (3 - (lg_sl ([.long x, .int k])).length) Slot.unset).toArray = ls at hl ⊢
  have hl : lv_has ls 3 [(0, .long x), (2, .int k)] := hl
  refine lv_lload_n hx hb d_B_partRoundedDown_0 rfl (lv_at hl 0 rfl) ?_
  refine lv_iload_n hx hb d_B_partRoundedDown_1 rfl (lv_at hl 1 rfl) ?_
  refine lv_i2l (v := k.toInt64) hx hb d_B_partRoundedDown_2 rfl ?_
  refine lv_lmul hx hb d_B_partRoundedDown_3 ?_
  refine lv_ldc2 (v := 10000) hx hb hown (hts _ kw_218) d_B_partRoundedDown_4 ?_
  refine lv_ldiv hx hb d_B_partRoundedDown_7 (by decide) ?_
  exact W.lret (v := (x * k.toInt64) / 10000) hx hb hr (fun t ht hW => ⟨rfl, ht⟩) (fun q hq => by cases hq) d_B_partRoundedDown_8
set_option maxHeartbeats 4000000 in
set_option maxRecDepth 100000 in
theorem c_partRoundedUp (l : Launch) (dC : Nat → ClassId) (dI : Nat → Nat → Nat) (ad : Nat → Nat) (cI cJ : ClassId) (n tc : Nat) (ki ra : Nat → Int32) (po se : Nat → Int64) (bc : Nat → Int32) (bs op : Nat → Int64) (pr pe : Nat → Int32) (pm : Nat → Int64) (x : Int64) (k : Int32) : Met l y_B_partRoundedUp (.code y_B_partRoundedUp b_B_partRoundedUp 3 (some .long) :: wAll) ({ frames := 0, cells := 0, slots := 0, locals := 0 } : Room) (ro_P [.long x, .int k] (dC, dI) vwCl [(cI, .int), (cJ, .long)] (cb_w ad cI cJ n tc ki ra po se bc bs op pr pe pm) (fun _ => True)) (ro_Q (some (.long ((x * k.toInt64 + 10000 - 1) / 10000)))) 0 0 (fun _ => False) := by
  refine Met.ofW (cc := b_B_partRoundedUp) (maxL := 3) (ret := (some .long)) (by decide) rfl ?_
  intro p e s m args below meth c s₁ B hml hv
  obtain ⟨rfl, hP, hK, hB⟩ := hv
  have hx := B.exec
  have hb := B.bytes
  have hr := B.returns
  have hts0 := atoms_spec (ws := (.code y_B_partRoundedUp b_B_partRoundedUp 3 (some .long) :: wAll)) B.pre
  have hts := hts_all hts0
  have hown : s.vm.findClass "ClearingBooks" = some m.cls := findClass_of_methodNamed B.named
  have hlocks := B.notSynchronized
  have hl := lv_entry ([.long x, .int k]) (n := 3) (Nat.le_of_ble_eq_true rfl)
  rw [lg_entry_eq]
  generalize (lg_sl ([.long x, .int k]) ++ List.replicate (3 - (lg_sl ([.long x, .int k])).length) Slot.unset).toArray = ls at hl ⊢
  have hl : lv_has ls 3 [(0, .long x), (2, .int k)] := hl
  refine lv_lload_n hx hb d_B_partRoundedUp_0 rfl (lv_at hl 0 rfl) ?_
  refine lv_iload_n hx hb d_B_partRoundedUp_1 rfl (lv_at hl 1 rfl) ?_
  refine lv_i2l (v := k.toInt64) hx hb d_B_partRoundedUp_2 rfl ?_
  refine lv_lmul hx hb d_B_partRoundedUp_3 ?_
  refine lv_ldc2 (v := 10000) hx hb hown (hts _ kw_218) d_B_partRoundedUp_4 ?_
  refine lv_ladd hx hb d_B_partRoundedUp_7 ?_
  refine lv_lconst (v := 1) hx hb d_B_partRoundedUp_8 (by decide) ?_
  refine lv_lsub hx hb d_B_partRoundedUp_9 ?_
  refine lv_ldc2 (v := 10000) hx hb hown (hts _ kw_218) d_B_partRoundedUp_10 ?_
  refine lv_ldiv hx hb d_B_partRoundedUp_13 (by decide) ?_
  exact W.lret (v := (((x * k.toInt64) + 10000) - 1) / 10000) hx hb hr (fun t ht hW => ⟨rfl, ht⟩) (fun q hq => by cases hq) d_B_partRoundedUp_14
set_option maxHeartbeats 4000000 in
set_option maxRecDepth 100000 in
theorem c_leastOpen (l : Launch) (dC : Nat → ClassId) (dI : Nat → Nat → Nat) (ad : Nat → Nat) (cI cJ : ClassId) (n tc : Nat) (ki ra : Nat → Int32) (po se : Nat → Int64) (bc : Nat → Int32) (bs op : Nat → Int64) (pr pe : Nat → Int32) (pm : Nat → Int64) (h1 : 1 ≤ n) (hn : n ≤ 15) : Met l y_B_leastOpen (.code y_B_leastOpen b_B_leastOpen 3 (some .int) :: wAll) ({ frames := 0, cells := 0, slots := 0, locals := 0 } : Room) (ro_P [.ref (ad 0)] (dC, dI) vwCl [(cI, .int), (cJ, .long)] (cb_w ad cI cJ n tc ki ra po se bc bs op pr pe pm) (fun _ => True)) (ro_Q (some (.int (nI (am op (n - 1)))))) 0 0 (fun _ => False) := by
  refine Met.ofW (cc := b_B_leastOpen) (maxL := 3) (ret := (some .int)) (by decide) rfl ?_
  intro p e s m args below meth c s₁ B hml hv
  obtain ⟨rfl, hP, hK, hB⟩ := hv
  have hx := B.exec
  have hb := B.bytes
  have hr := B.returns
  have hts0 := atoms_spec (ws := (.code y_B_leastOpen b_B_leastOpen 3 (some .int) :: wAll)) B.pre
  have hts := hts_all hts0
  have hown : s.vm.findClass "ClearingBooks" = some m.cls := findClass_of_methodNamed B.named
  have hlocks := B.notSynchronized
  have hl := lv_entry ([.ref (ad 0)]) (n := 3) (Nat.le_of_ble_eq_true rfl)
  rw [lg_entry_eq]
  generalize (lg_sl ([.ref (ad 0)]) ++ List.replicate (3 - (lg_sl ([.ref (ad 0)])).length) Slot.unset).toArray = ls at hl ⊢
  have hl : lv_has ls 3 [(0, .ref (ad 0))] := hl
  refine lv_iconst (v := nI 0) hx hb d_B_leastOpen_0 (by decide) ?_
  refine lv_istore_n (lv' := [(1, .int (nI 0)), (0, .ref (ad 0))]) hx hb d_B_leastOpen_1 rfl hl (by decide) rfl (fun ls hl => ?_)
  refine lv_iconst (v := nI 1) hx hb d_B_leastOpen_2 (by decide) ?_
  refine lv_istore_n (lv' := [(2, .int (nI 1)), (1, .int (nI 0)), (0, .ref (ad 0))]) hx hb d_B_leastOpen_3 rfl hl (by decide) rfl (fun ls hl => ?_)
  have loop : ∀ (k i : Nat) (ls : Array Slot), i + 1 + k = n → lv_has ls 3 [(0, .ref (ad 0)), (1, .int (nI (am op i))), (2, .int (nI (i + 1)))] → W p l e (headSpec (.code y_B_leastOpen b_B_leastOpen 3 (some .int) :: wAll) ({ frames := 0, cells := 0, slots := 0, locals := 0 } : Room)).room s m ([.ref (ad 0)] : List Value).toArray below meth c s.heap [] 0 0 (MQ below (ro_Q (some (.int (nI (am op (n - 1)))))) ([.ref (ad 0)] : List Value).toArray s 0 0 (fun _ => False)) (F0 m 4 ls []) := by
    intro k
    induction k with
    | zero =>
      intro i ls hi hl
      have h9 := am_le op i
      refine lv_iload_n hx hb d_B_leastOpen_4 rfl (lv_at hl 2 rfl) ?_
      refine lv_aload_n hx hb d_B_leastOpen_5 rfl (lv_at hl 0 rfl) ?_
      refine va_get (D := (dC, dI)) (ci := 0) (v := .int (nI n)) (C := "ClearingBooks") (T := T_B) (N := 12) hx hb hts wi_B hown hK hP 0 rfl rfl 0 (by decide) (hts _ kw_17) (fun _ h9 => h9) rfl d_B_leastOpen_6 ?_
      refine lv_icmp_ge (tgt := 36) hx hb d_B_leastOpen_9 (by decide) (fun c51 => ?_) (fun c51 => ?_)
      · replace c51 := (nI_leI (by omega) (by omega)).mp c51
        refine lv_iload_n hx hb d_B_leastOpen_36 rfl (lv_at hl 1 rfl) ?_
        exact W.iret (v := nI (am op i)) hx hb hr (fun t ht hW => ⟨by rw [show n - 1 = i by omega], ht⟩) (fun q hq => by cases hq) d_B_leastOpen_37
      · replace c51 := mt (nI_leI (by omega) (by omega)).mpr c51
        exfalso; omega
    | succ k ih =>
      intro i ls hi hl
      have h9 := am_le op i
      refine lv_iload_n hx hb d_B_leastOpen_4 rfl (lv_at hl 2 rfl) ?_
      refine lv_aload_n hx hb d_B_leastOpen_5 rfl (lv_at hl 0 rfl) ?_
      refine va_get (D := (dC, dI)) (ci := 0) (v := .int (nI n)) (C := "ClearingBooks") (T := T_B) (N := 12) hx hb hts wi_B hown hK hP 0 rfl rfl 0 (by decide) (hts _ kw_17) (fun _ h9 => h9) rfl d_B_leastOpen_6 ?_
      refine lv_icmp_ge (tgt := 36) hx hb d_B_leastOpen_9 (by decide) (fun c51 => ?_) (fun c51 => ?_)
      · replace c51 := (nI_leI (by omega) (by omega)).mp c51
        exfalso; omega
      · replace c51 := mt (nI_leI (by omega) (by omega)).mpr c51
        refine lv_aload_n hx hb d_B_leastOpen_12 rfl (lv_at hl 0 rfl) ?_
        refine va_get (D := (dC, dI)) (ci := 0) (v := .ref (ad 7)) (C := "ClearingBooks") (T := T_B) (N := 12) hx hb hts wi_B hown hK hP 0 rfl rfl 7 (by decide) (hts _ kw_24) (fun _ h9 => h9) rfl d_B_leastOpen_13 ?_
        refine lv_iload_n hx hb d_B_leastOpen_16 rfl (lv_at hl 2 rfl) ?_
        refine xa_laload (f := op) hx hb hK hP 7 1 rfl rfl (j := i + 1) (by omega) (by decide) d_B_leastOpen_17 ?_
        refine lv_aload_n hx hb d_B_leastOpen_18 rfl (lv_at hl 0 rfl) ?_
        refine va_get (D := (dC, dI)) (ci := 0) (v := .ref (ad 7)) (C := "ClearingBooks") (T := T_B) (N := 12) hx hb hts wi_B hown hK hP 0 rfl rfl 7 (by decide) (hts _ kw_24) (fun _ h9 => h9) rfl d_B_leastOpen_19 ?_
        refine lv_iload_n hx hb d_B_leastOpen_22 rfl (lv_at hl 1 rfl) ?_
        refine xa_laload (f := op) hx hb hK hP 7 1 rfl rfl (j := am op i) (by omega) (by decide) d_B_leastOpen_23 ?_
        refine W.lcmp hx hb d_B_leastOpen_24 ?_
        refine lv_if_ge (tgt := 30) hx hb d_B_leastOpen_25 (by decide) (fun c52 => ?_) (fun c52 => ?_)
        · replace c52 := (lg_cmp_ge _ _).mp c52
          refine lv_iinc (v := nI (i + 1 + 1)) (lv' := [(2, .int (nI (i + 1 + 1))), (0, .ref (ad 0)), (1, .int (nI (am op i)))]) hx hb d_B_leastOpen_30 hl (k := 2) rfl (nI_1 (i + 1)) (by decide) rfl (fun ls hl => ?_)
          refine lv_goto (tgt := 4) hx hb d_B_leastOpen_33 (by decide) ?_
          exact ih (i + 1) ls (by omega) (by rw [am_y c52]; exact lv_sub hl [1, 2, 0] rfl)
        · replace c52 := mt (lg_cmp_ge _ _).mpr c52
          refine lv_iload_n hx hb d_B_leastOpen_28 rfl (lv_at hl 2 rfl) ?_
          refine lv_istore_n (lv' := [(1, .int (nI (i + 1))), (0, .ref (ad 0)), (2, .int (nI (i + 1)))]) hx hb d_B_leastOpen_29 rfl hl (by decide) rfl (fun ls hl => ?_)
          refine lv_iinc (v := nI (i + 1 + 1)) (lv' := [(2, .int (nI (i + 1 + 1))), (1, .int (nI (i + 1))), (0, .ref (ad 0))]) hx hb d_B_leastOpen_30 hl (k := 2) rfl (nI_1 (i + 1)) (by decide) rfl (fun ls hl => ?_)
          refine lv_goto (tgt := 4) hx hb d_B_leastOpen_33 (by decide) ?_
          exact ih (i + 1) ls (by omega) (by rw [am_n c52]; exact lv_sub hl [2, 1, 0] rfl)
  exact loop (n - 1) 0 ls (by omega) (lv_sub hl [2, 1, 0] rfl)
set_option maxHeartbeats 4000000 in
set_option maxRecDepth 100000 in
theorem c_greatestOpen (l : Launch) (dC : Nat → ClassId) (dI : Nat → Nat → Nat) (ad : Nat → Nat) (cI cJ : ClassId) (n tc : Nat) (ki ra : Nat → Int32) (po se : Nat → Int64) (bc : Nat → Int32) (bs op : Nat → Int64) (pr pe : Nat → Int32) (pm : Nat → Int64) (h1 : 1 ≤ n) (hn : n ≤ 15) : Met l y_B_greatestOpen (.code y_B_greatestOpen b_B_greatestOpen 3 (some .int) :: wAll) ({ frames := 0, cells := 0, slots := 0, locals := 0 } : Room) (ro_P [.ref (ad 0)] (dC, dI) vwCl [(cI, .int), (cJ, .long)] (cb_w ad cI cJ n tc ki ra po se bc bs op pr pe pm) (fun _ => True)) (ro_Q (some (.int (nI (ax op (n - 1)))))) 0 0 (fun _ => False) := by
  refine Met.ofW (cc := b_B_greatestOpen) (maxL := 3) (ret := (some .int)) (by decide) rfl ?_
  intro p e s m args below meth c s₁ B hml hv
  obtain ⟨rfl, hP, hK, hB⟩ := hv
  have hx := B.exec
  have hb := B.bytes
  have hr := B.returns
  have hts0 := atoms_spec (ws := (.code y_B_greatestOpen b_B_greatestOpen 3 (some .int) :: wAll)) B.pre
  have hts := hts_all hts0
  have hown : s.vm.findClass "ClearingBooks" = some m.cls := findClass_of_methodNamed B.named
  have hlocks := B.notSynchronized
  have hl := lv_entry ([.ref (ad 0)]) (n := 3) (Nat.le_of_ble_eq_true rfl)
  rw [lg_entry_eq]
  generalize (lg_sl ([.ref (ad 0)]) ++ List.replicate (3 - (lg_sl ([.ref (ad 0)])).length) Slot.unset).toArray = ls at hl ⊢
  have hl : lv_has ls 3 [(0, .ref (ad 0))] := hl
  refine lv_iconst (v := nI 0) hx hb d_B_greatestOpen_0 (by decide) ?_
  refine lv_istore_n (lv' := [(1, .int (nI 0)), (0, .ref (ad 0))]) hx hb d_B_greatestOpen_1 rfl hl (by decide) rfl (fun ls hl => ?_)
  refine lv_iconst (v := nI 1) hx hb d_B_greatestOpen_2 (by decide) ?_
  refine lv_istore_n (lv' := [(2, .int (nI 1)), (1, .int (nI 0)), (0, .ref (ad 0))]) hx hb d_B_greatestOpen_3 rfl hl (by decide) rfl (fun ls hl => ?_)
  have loop : ∀ (k i : Nat) (ls : Array Slot), i + 1 + k = n → lv_has ls 3 [(0, .ref (ad 0)), (1, .int (nI (ax op i))), (2, .int (nI (i + 1)))] → W p l e (headSpec (.code y_B_greatestOpen b_B_greatestOpen 3 (some .int) :: wAll) ({ frames := 0, cells := 0, slots := 0, locals := 0 } : Room)).room s m ([.ref (ad 0)] : List Value).toArray below meth c s.heap [] 0 0 (MQ below (ro_Q (some (.int (nI (ax op (n - 1)))))) ([.ref (ad 0)] : List Value).toArray s 0 0 (fun _ => False)) (F0 m 4 ls []) := by
    intro k
    induction k with
    | zero =>
      intro i ls hi hl
      have h9 := ax_le op i
      refine lv_iload_n hx hb d_B_greatestOpen_4 rfl (lv_at hl 2 rfl) ?_
      refine lv_aload_n hx hb d_B_greatestOpen_5 rfl (lv_at hl 0 rfl) ?_
      refine va_get (D := (dC, dI)) (ci := 0) (v := .int (nI n)) (C := "ClearingBooks") (T := T_B) (N := 12) hx hb hts wi_B hown hK hP 0 rfl rfl 0 (by decide) (hts _ kw_17) (fun _ h9 => h9) rfl d_B_greatestOpen_6 ?_
      refine lv_icmp_ge (tgt := 36) hx hb d_B_greatestOpen_9 (by decide) (fun c51 => ?_) (fun c51 => ?_)
      · replace c51 := (nI_leI (by omega) (by omega)).mp c51
        refine lv_iload_n hx hb d_B_greatestOpen_36 rfl (lv_at hl 1 rfl) ?_
        exact W.iret (v := nI (ax op i)) hx hb hr (fun t ht hW => ⟨by rw [show n - 1 = i by omega], ht⟩) (fun q hq => by cases hq) d_B_greatestOpen_37
      · replace c51 := mt (nI_leI (by omega) (by omega)).mpr c51
        exfalso; omega
    | succ k ih =>
      intro i ls hi hl
      have h9 := ax_le op i
      refine lv_iload_n hx hb d_B_greatestOpen_4 rfl (lv_at hl 2 rfl) ?_
      refine lv_aload_n hx hb d_B_greatestOpen_5 rfl (lv_at hl 0 rfl) ?_
      refine va_get (D := (dC, dI)) (ci := 0) (v := .int (nI n)) (C := "ClearingBooks") (T := T_B) (N := 12) hx hb hts wi_B hown hK hP 0 rfl rfl 0 (by decide) (hts _ kw_17) (fun _ h9 => h9) rfl d_B_greatestOpen_6 ?_
      refine lv_icmp_ge (tgt := 36) hx hb d_B_greatestOpen_9 (by decide) (fun c51 => ?_) (fun c51 => ?_)
      · replace c51 := (nI_leI (by omega) (by omega)).mp c51
        exfalso; omega
      · replace c51 := mt (nI_leI (by omega) (by omega)).mpr c51
        refine lv_aload_n hx hb d_B_greatestOpen_12 rfl (lv_at hl 0 rfl) ?_
        refine va_get (D := (dC, dI)) (ci := 0) (v := .ref (ad 7)) (C := "ClearingBooks") (T := T_B) (N := 12) hx hb hts wi_B hown hK hP 0 rfl rfl 7 (by decide) (hts _ kw_24) (fun _ h9 => h9) rfl d_B_greatestOpen_13 ?_
        refine lv_iload_n hx hb d_B_greatestOpen_16 rfl (lv_at hl 2 rfl) ?_
        refine xa_laload (f := op) hx hb hK hP 7 1 rfl rfl (j := i + 1) (by omega) (by decide) d_B_greatestOpen_17 ?_
        refine lv_aload_n hx hb d_B_greatestOpen_18 rfl (lv_at hl 0 rfl) ?_
        refine va_get (D := (dC, dI)) (ci := 0) (v := .ref (ad 7)) (C := "ClearingBooks") (T := T_B) (N := 12) hx hb hts wi_B hown hK hP 0 rfl rfl 7 (by decide) (hts _ kw_24) (fun _ h9 => h9) rfl d_B_greatestOpen_19 ?_
        refine lv_iload_n hx hb d_B_greatestOpen_22 rfl (lv_at hl 1 rfl) ?_
        refine xa_laload (f := op) hx hb hK hP 7 1 rfl rfl (j := ax op i) (by omega) (by decide) d_B_greatestOpen_23 ?_
        refine W.lcmp hx hb d_B_greatestOpen_24 ?_
        refine lv_if_le (tgt := 30) hx hb d_B_greatestOpen_25 (by decide) (fun c52 => ?_) (fun c52 => ?_)
        · replace c52 := (lg_cmp_le _ _).mp c52
          refine lv_iinc (v := nI (i + 1 + 1)) (lv' := [(2, .int (nI (i + 1 + 1))), (0, .ref (ad 0)), (1, .int (nI (ax op i)))]) hx hb d_B_greatestOpen_30 hl (k := 2) rfl (nI_1 (i + 1)) (by decide) rfl (fun ls hl => ?_)
          refine lv_goto (tgt := 4) hx hb d_B_greatestOpen_33 (by decide) ?_
          exact ih (i + 1) ls (by omega) (by rw [ax_y c52]; exact lv_sub hl [1, 2, 0] rfl)
        · replace c52 := mt (lg_cmp_le _ _).mpr c52
          refine lv_iload_n hx hb d_B_greatestOpen_28 rfl (lv_at hl 2 rfl) ?_
          refine lv_istore_n (lv' := [(1, .int (nI (i + 1))), (0, .ref (ad 0)), (2, .int (nI (i + 1)))]) hx hb d_B_greatestOpen_29 rfl hl (by decide) rfl (fun ls hl => ?_)
          refine lv_iinc (v := nI (i + 1 + 1)) (lv' := [(2, .int (nI (i + 1 + 1))), (1, .int (nI (i + 1))), (0, .ref (ad 0))]) hx hb d_B_greatestOpen_30 hl (k := 2) rfl (nI_1 (i + 1)) (by decide) rfl (fun ls hl => ?_)
          refine lv_goto (tgt := 4) hx hb d_B_greatestOpen_33 (by decide) ?_
          exact ih (i + 1) ls (by omega) (by rw [ax_n c52]; exact lv_sub hl [2, 1, 0] rfl)
  exact loop (n - 1) 0 ls (by omega) (lv_sub hl [2, 1, 0] rfl)
set_option maxHeartbeats 4000000 in
set_option maxRecDepth 100000 in
theorem c_sumOf_po (l : Launch) (dC : Nat → ClassId) (dI : Nat → Nat → Nat) (ad : Nat → Nat) (cI cJ : ClassId) (n tc : Nat) (ki ra : Nat → Int32) (po se : Nat → Int64) (bc : Nat → Int32) (bs op : Nat → Int64) (pr pe : Nat → Int32) (pm : Nat → Int64) (hn : n ≤ 15) : Met l y_B_sumOf (.code y_B_sumOf b_B_sumOf 5 (some .long) :: wAll) ({ frames := 0, cells := 0, slots := 0, locals := 0 } : Room) (ro_P [.ref (ad 0), .ref (ad 3)] (dC, dI) vwCl [(cI, .int), (cJ, .long)] (cb_w ad cI cJ n tc ki ra po se bc bs op pr pe pm) (fun _ => True)) (ro_Q (some (.long (sm po n)))) 0 0 (fun _ => False) := by
  refine Met.ofW (cc := b_B_sumOf) (maxL := 5) (ret := (some .long)) (by decide) rfl ?_
  intro p e s m args below meth c s₁ B hml hv
  obtain ⟨rfl, hP, hK, hB⟩ := hv
  have hx := B.exec
  have hb := B.bytes
  have hr := B.returns
  have hts0 := atoms_spec (ws := (.code y_B_sumOf b_B_sumOf 5 (some .long) :: wAll)) B.pre
  have hts := hts_all hts0
  have hown : s.vm.findClass "ClearingBooks" = some m.cls := findClass_of_methodNamed B.named
  have hlocks := B.notSynchronized
  have hl := lv_entry ([.ref (ad 0), .ref (ad 3)]) (n := 5) (Nat.le_of_ble_eq_true rfl)
  rw [lg_entry_eq]
  generalize (lg_sl ([.ref (ad 0), .ref (ad 3)]) ++ List.replicate (5 - (lg_sl ([.ref (ad 0), .ref (ad 3)])).length) Slot.unset).toArray = ls at hl ⊢
  have hl : lv_has ls 5 [(0, .ref (ad 0)), (1, .ref (ad 3))] := hl
  refine lv_lconst (v := 0) hx hb d_B_sumOf_0 (by decide) ?_
  refine lv_lstore_n (lv' := [(2, .long 0), (0, .ref (ad 0)), (1, .ref (ad 3))]) hx hb d_B_sumOf_1 rfl hl (by decide) rfl (fun ls hl => ?_)
  refine lv_iconst (v := nI 0) hx hb d_B_sumOf_2 (by decide) ?_
  refine lv_istore (lv' := [(4, .int (nI 0)), (2, .long 0), (0, .ref (ad 0)), (1, .ref (ad 3))]) hx hb d_B_sumOf_3 hl (by decide) rfl (fun ls hl => ?_)
  have loop : ∀ (k i : Nat) (ls : Array Slot), i + k = n → lv_has ls 5 [(0, .ref (ad 0)), (1, .ref (ad 3)), (2, .long (sm po i)), (4, .int (nI i))] → W p l e (headSpec (.code y_B_sumOf b_B_sumOf 5 (some .long) :: wAll) ({ frames := 0, cells := 0, slots := 0, locals := 0 } : Room)).room s m ([.ref (ad 0), .ref (ad 3)] : List Value).toArray below meth c s.heap [] 0 0 (MQ below (ro_Q (some (.long (sm po n)))) ([.ref (ad 0), .ref (ad 3)] : List Value).toArray s 0 0 (fun _ => False)) (F0 m 5 ls []) := by
    intro k
    induction k with
    | zero =>
      intro i ls hi hl
      refine lv_iload hx hb d_B_sumOf_5 (lv_at hl 3 rfl) ?_
      refine lv_aload_n hx hb d_B_sumOf_7 rfl (lv_at hl 0 rfl) ?_
      refine va_get (D := (dC, dI)) (ci := 0) (v := .int (nI n)) (C := "ClearingBooks") (T := T_B) (N := 12) hx hb hts wi_B hown hK hP 0 rfl rfl 0 (by decide) (hts _ kw_17) (fun _ h9 => h9) rfl d_B_sumOf_8 ?_
      refine lv_icmp_ge (tgt := 27) hx hb d_B_sumOf_11 (by decide) (fun c51 => ?_) (fun c51 => ?_)
      · replace c51 := (nI_leI (by omega) (by omega)).mp c51
        refine lv_lload_n hx hb d_B_sumOf_27 rfl (lv_at hl 2 rfl) ?_
        exact W.lret (v := sm po i) hx hb hr (fun t ht hW => ⟨by rw [show n = i by omega], ht⟩) (fun q hq => by cases hq) d_B_sumOf_28
      · replace c51 := mt (nI_leI (by omega) (by omega)).mpr c51
        exfalso; omega
    | succ k ih =>
      intro i ls hi hl
      refine lv_iload hx hb d_B_sumOf_5 (lv_at hl 3 rfl) ?_
      refine lv_aload_n hx hb d_B_sumOf_7 rfl (lv_at hl 0 rfl) ?_
      refine va_get (D := (dC, dI)) (ci := 0) (v := .int (nI n)) (C := "ClearingBooks") (T := T_B) (N := 12) hx hb hts wi_B hown hK hP 0 rfl rfl 0 (by decide) (hts _ kw_17) (fun _ h9 => h9) rfl d_B_sumOf_8 ?_
      refine lv_icmp_ge (tgt := 27) hx hb d_B_sumOf_11 (by decide) (fun c51 => ?_) (fun c51 => ?_)
      · replace c51 := (nI_leI (by omega) (by omega)).mp c51
        exfalso; omega
      · replace c51 := mt (nI_leI (by omega) (by omega)).mpr c51
        refine lv_lload_n hx hb d_B_sumOf_14 rfl (lv_at hl 2 rfl) ?_
        refine lv_aload_n hx hb d_B_sumOf_15 rfl (lv_at hl 1 rfl) ?_
        refine lv_iload hx hb d_B_sumOf_16 (lv_at hl 3 rfl) ?_
        refine xa_laload (f := po) hx hb hK hP 3 1 rfl rfl (j := i) (by omega) (by decide) d_B_sumOf_18 ?_
        refine lv_ladd hx hb d_B_sumOf_19 ?_
        refine lv_lstore_n (lv' := [(2, .long ((sm po i) + (po i))), (0, .ref (ad 0)), (1, .ref (ad 3)), (4, .int (nI i))]) hx hb d_B_sumOf_20 rfl hl (by decide) rfl (fun ls hl => ?_)
        refine lv_iinc (v := nI (i + 1)) (lv' := [(4, .int (nI (i + 1))), (2, .long ((sm po i) + (po i))), (0, .ref (ad 0)), (1, .ref (ad 3))]) hx hb d_B_sumOf_21 hl (k := 3) rfl (nI_1 i) (by decide) rfl (fun ls hl => ?_)
        refine lv_goto (tgt := 5) hx hb d_B_sumOf_24 (by decide) ?_
        exact ih (i + 1) ls (by omega) (lv_sub hl [2, 3, 1, 0] rfl)
  exact loop n 0 ls (by omega) (lv_sub hl [2, 3, 1, 0] rfl)
set_option maxHeartbeats 4000000 in
set_option maxRecDepth 100000 in
theorem c_sumOf_se (l : Launch) (dC : Nat → ClassId) (dI : Nat → Nat → Nat) (ad : Nat → Nat) (cI cJ : ClassId) (n tc : Nat) (ki ra : Nat → Int32) (po se : Nat → Int64) (bc : Nat → Int32) (bs op : Nat → Int64) (pr pe : Nat → Int32) (pm : Nat → Int64) (hn : n ≤ 15) : Met l y_B_sumOf (.code y_B_sumOf b_B_sumOf 5 (some .long) :: wAll) ({ frames := 0, cells := 0, slots := 0, locals := 0 } : Room) (ro_P [.ref (ad 0), .ref (ad 4)] (dC, dI) vwCl [(cI, .int), (cJ, .long)] (cb_w ad cI cJ n tc ki ra po se bc bs op pr pe pm) (fun _ => True)) (ro_Q (some (.long (sm se n)))) 0 0 (fun _ => False) := by
  refine Met.ofW (cc := b_B_sumOf) (maxL := 5) (ret := (some .long)) (by decide) rfl ?_
  intro p e s m args below meth c s₁ B hml hv
  obtain ⟨rfl, hP, hK, hB⟩ := hv
  have hx := B.exec
  have hb := B.bytes
  have hr := B.returns
  have hts0 := atoms_spec (ws := (.code y_B_sumOf b_B_sumOf 5 (some .long) :: wAll)) B.pre
  have hts := hts_all hts0
  have hown : s.vm.findClass "ClearingBooks" = some m.cls := findClass_of_methodNamed B.named
  have hlocks := B.notSynchronized
  have hl := lv_entry ([.ref (ad 0), .ref (ad 4)]) (n := 5) (Nat.le_of_ble_eq_true rfl)
  rw [lg_entry_eq]
  generalize (lg_sl ([.ref (ad 0), .ref (ad 4)]) ++ List.replicate (5 - (lg_sl ([.ref (ad 0), .ref (ad 4)])).length) Slot.unset).toArray = ls at hl ⊢
  have hl : lv_has ls 5 [(0, .ref (ad 0)), (1, .ref (ad 4))] := hl
  refine lv_lconst (v := 0) hx hb d_B_sumOf_0 (by decide) ?_
  refine lv_lstore_n (lv' := [(2, .long 0), (0, .ref (ad 0)), (1, .ref (ad 4))]) hx hb d_B_sumOf_1 rfl hl (by decide) rfl (fun ls hl => ?_)
  refine lv_iconst (v := nI 0) hx hb d_B_sumOf_2 (by decide) ?_
  refine lv_istore (lv' := [(4, .int (nI 0)), (2, .long 0), (0, .ref (ad 0)), (1, .ref (ad 4))]) hx hb d_B_sumOf_3 hl (by decide) rfl (fun ls hl => ?_)
  have loop : ∀ (k i : Nat) (ls : Array Slot), i + k = n → lv_has ls 5 [(0, .ref (ad 0)), (1, .ref (ad 4)), (2, .long (sm se i)), (4, .int (nI i))] → W p l e (headSpec (.code y_B_sumOf b_B_sumOf 5 (some .long) :: wAll) ({ frames := 0, cells := 0, slots := 0, locals := 0 } : Room)).room s m ([.ref (ad 0), .ref (ad 4)] : List Value).toArray below meth c s.heap [] 0 0 (MQ below (ro_Q (some (.long (sm se n)))) ([.ref (ad 0), .ref (ad 4)] : List Value).toArray s 0 0 (fun _ => False)) (F0 m 5 ls []) := by
    intro k
    induction k with
    | zero =>
      intro i ls hi hl
      refine lv_iload hx hb d_B_sumOf_5 (lv_at hl 3 rfl) ?_
      refine lv_aload_n hx hb d_B_sumOf_7 rfl (lv_at hl 0 rfl) ?_
      refine va_get (D := (dC, dI)) (ci := 0) (v := .int (nI n)) (C := "ClearingBooks") (T := T_B) (N := 12) hx hb hts wi_B hown hK hP 0 rfl rfl 0 (by decide) (hts _ kw_17) (fun _ h9 => h9) rfl d_B_sumOf_8 ?_
      refine lv_icmp_ge (tgt := 27) hx hb d_B_sumOf_11 (by decide) (fun c51 => ?_) (fun c51 => ?_)
      · replace c51 := (nI_leI (by omega) (by omega)).mp c51
        refine lv_lload_n hx hb d_B_sumOf_27 rfl (lv_at hl 2 rfl) ?_
        exact W.lret (v := sm se i) hx hb hr (fun t ht hW => ⟨by rw [show n = i by omega], ht⟩) (fun q hq => by cases hq) d_B_sumOf_28
      · replace c51 := mt (nI_leI (by omega) (by omega)).mpr c51
        exfalso; omega
    | succ k ih =>
      intro i ls hi hl
      refine lv_iload hx hb d_B_sumOf_5 (lv_at hl 3 rfl) ?_
      refine lv_aload_n hx hb d_B_sumOf_7 rfl (lv_at hl 0 rfl) ?_
      refine va_get (D := (dC, dI)) (ci := 0) (v := .int (nI n)) (C := "ClearingBooks") (T := T_B) (N := 12) hx hb hts wi_B hown hK hP 0 rfl rfl 0 (by decide) (hts _ kw_17) (fun _ h9 => h9) rfl d_B_sumOf_8 ?_
      refine lv_icmp_ge (tgt := 27) hx hb d_B_sumOf_11 (by decide) (fun c51 => ?_) (fun c51 => ?_)
      · replace c51 := (nI_leI (by omega) (by omega)).mp c51
        exfalso; omega
      · replace c51 := mt (nI_leI (by omega) (by omega)).mpr c51
        refine lv_lload_n hx hb d_B_sumOf_14 rfl (lv_at hl 2 rfl) ?_
        refine lv_aload_n hx hb d_B_sumOf_15 rfl (lv_at hl 1 rfl) ?_
        refine lv_iload hx hb d_B_sumOf_16 (lv_at hl 3 rfl) ?_
        refine xa_laload (f := se) hx hb hK hP 4 1 rfl rfl (j := i) (by omega) (by decide) d_B_sumOf_18 ?_
        refine lv_ladd hx hb d_B_sumOf_19 ?_
        refine lv_lstore_n (lv' := [(2, .long ((sm se i) + (se i))), (0, .ref (ad 0)), (1, .ref (ad 4)), (4, .int (nI i))]) hx hb d_B_sumOf_20 rfl hl (by decide) rfl (fun ls hl => ?_)
        refine lv_iinc (v := nI (i + 1)) (lv' := [(4, .int (nI (i + 1))), (2, .long ((sm se i) + (se i))), (0, .ref (ad 0)), (1, .ref (ad 4))]) hx hb d_B_sumOf_21 hl (k := 3) rfl (nI_1 i) (by decide) rfl (fun ls hl => ?_)
        refine lv_goto (tgt := 5) hx hb d_B_sumOf_24 (by decide) ?_
        exact ih (i + 1) ls (by omega) (lv_sub hl [2, 3, 1, 0] rfl)
  exact loop n 0 ls (by omega) (lv_sub hl [2, 3, 1, 0] rfl)
set_option maxHeartbeats 4000000 in
set_option maxRecDepth 100000 in
theorem c_placeOf (l : Launch) (dC : Nat → ClassId) (dI : Nat → Nat → Nat) (ad : Nat → Nat) (cI cJ : ClassId) (n tc : Nat) (ki ra : Nat → Int32) (po se : Nat → Int64) (bc : Nat → Int32) (bs op : Nat → Int64) (pr pe : Nat → Int32) (pm : Nat → Int64) (j : Nat) (hj : j < n) (hn : n ≤ 15) : Met l y_B_placeOf (.code y_B_placeOf b_B_placeOf 5 (some .int) :: wAll) ({ frames := 0, cells := 0, slots := 0, locals := 0 } : Room) (ro_P [.ref (ad 0), .int (nI j)] (dC, dI) vwCl [(cI, .int), (cJ, .long)] (cb_w ad cI cJ n tc ki ra po se bc bs op pr pe pm) (fun _ => True)) (ro_Q (some (.int (nI (pl po j n))))) 0 0 (fun _ => False) := by
  refine Met.ofW (cc := b_B_placeOf) (maxL := 5) (ret := (some .int)) (by decide) rfl ?_
  intro p e s m args below meth c s₁ B hml hv
  obtain ⟨rfl, hP, hK, hB⟩ := hv
  have hx := B.exec
  have hb := B.bytes
  have hr := B.returns
  have hts0 := atoms_spec (ws := (.code y_B_placeOf b_B_placeOf 5 (some .int) :: wAll)) B.pre
  have hts := hts_all hts0
  have hown : s.vm.findClass "ClearingBooks" = some m.cls := findClass_of_methodNamed B.named
  have hlocks := B.notSynchronized
  have hl := lv_entry ([.ref (ad 0), .int (nI j)]) (n := 5) (Nat.le_of_ble_eq_true rfl)
  rw [lg_entry_eq]
  generalize (lg_sl ([.ref (ad 0), .int (nI j)]) ++ List.replicate (5 - (lg_sl ([.ref (ad 0), .int (nI j)])).length) Slot.unset).toArray = ls at hl ⊢
  have hl : lv_has ls 5 [(0, .ref (ad 0)), (1, .int (nI j))] := hl
  refine lv_iconst (v := nI 0) hx hb d_B_placeOf_0 (by decide) ?_
  refine lv_istore_n (lv' := [(2, .int (nI 0)), (0, .ref (ad 0)), (1, .int (nI j))]) hx hb d_B_placeOf_1 rfl hl (by decide) rfl (fun ls hl => ?_)
  refine lv_iconst (v := nI 0) hx hb d_B_placeOf_2 (by decide) ?_
  refine lv_istore_n (lv' := [(3, .int (nI 0)), (2, .int (nI 0)), (0, .ref (ad 0)), (1, .int (nI j))]) hx hb d_B_placeOf_3 rfl hl (by decide) rfl (fun ls hl => ?_)
  have loop : ∀ (k i : Nat) (ls : Array Slot), i + k = n → lv_has ls 5 [(0, .ref (ad 0)), (1, .int (nI j)), (2, .int (nI (pl po j i))), (3, .int (nI i))] → W p l e (headSpec (.code y_B_placeOf b_B_placeOf 5 (some .int) :: wAll) ({ frames := 0, cells := 0, slots := 0, locals := 0 } : Room)).room s m ([.ref (ad 0), .int (nI j)] : List Value).toArray below meth c s.heap [] 0 0 (MQ below (ro_Q (some (.int (nI (pl po j n))))) ([.ref (ad 0), .int (nI j)] : List Value).toArray s 0 0 (fun _ => False)) (F0 m 4 ls []) := by
    intro k
    induction k with
    | zero =>
      intro i ls hi hl
      have h9 := pl_le po j i
      refine lv_iload_n hx hb d_B_placeOf_4 rfl (lv_at hl 3 rfl) ?_
      refine lv_aload_n hx hb d_B_placeOf_5 rfl (lv_at hl 0 rfl) ?_
      refine va_get (D := (dC, dI)) (ci := 0) (v := .int (nI n)) (C := "ClearingBooks") (T := T_B) (N := 12) hx hb hts wi_B hown hK hP 0 rfl rfl 0 (by decide) (hts _ kw_17) (fun _ h9 => h9) rfl d_B_placeOf_6 ?_
      refine lv_icmp_ge (tgt := 70) hx hb d_B_placeOf_9 (by decide) (fun c51 => ?_) (fun c51 => ?_)
      · replace c51 := (nI_leI (by omega) (by omega)).mp c51
        refine lv_iload_n hx hb d_B_placeOf_70 rfl (lv_at hl 2 rfl) ?_
        exact W.iret (v := nI (pl po j i)) hx hb hr (fun t ht hW => ⟨by rw [show n = i by omega], ht⟩) (fun q hq => by cases hq) d_B_placeOf_71
      · replace c51 := mt (nI_leI (by omega) (by omega)).mpr c51
        exfalso; omega
    | succ k ih =>
      intro i ls hi hl
      have h9 := pl_le po j i
      refine lv_iload_n hx hb d_B_placeOf_4 rfl (lv_at hl 3 rfl) ?_
      refine lv_aload_n hx hb d_B_placeOf_5 rfl (lv_at hl 0 rfl) ?_
      refine va_get (D := (dC, dI)) (ci := 0) (v := .int (nI n)) (C := "ClearingBooks") (T := T_B) (N := 12) hx hb hts wi_B hown hK hP 0 rfl rfl 0 (by decide) (hts _ kw_17) (fun _ h9 => h9) rfl d_B_placeOf_6 ?_
      refine lv_icmp_ge (tgt := 70) hx hb d_B_placeOf_9 (by decide) (fun c51 => ?_) (fun c51 => ?_)
      · replace c51 := (nI_leI (by omega) (by omega)).mp c51
        exfalso; omega
      · replace c51 := mt (nI_leI (by omega) (by omega)).mpr c51
        refine lv_aload_n hx hb d_B_placeOf_12 rfl (lv_at hl 0 rfl) ?_
        refine va_get (D := (dC, dI)) (ci := 0) (v := .ref (ad 3)) (C := "ClearingBooks") (T := T_B) (N := 12) hx hb hts wi_B hown hK hP 0 rfl rfl 3 (by decide) (hts _ kw_20) (fun _ h9 => h9) rfl d_B_placeOf_13 ?_
        refine lv_iload_n hx hb d_B_placeOf_16 rfl (lv_at hl 3 rfl) ?_
        refine xa_laload (f := po) hx hb hK hP 3 1 rfl rfl (j := i) (by omega) (by decide) d_B_placeOf_17 ?_
        refine lv_aload_n hx hb d_B_placeOf_18 rfl (lv_at hl 0 rfl) ?_
        refine va_get (D := (dC, dI)) (ci := 0) (v := .ref (ad 3)) (C := "ClearingBooks") (T := T_B) (N := 12) hx hb hts wi_B hown hK hP 0 rfl rfl 3 (by decide) (hts _ kw_20) (fun _ h9 => h9) rfl d_B_placeOf_19 ?_
        refine lv_iload_n hx hb d_B_placeOf_22 rfl (lv_at hl 1 rfl) ?_
        refine xa_laload (f := po) hx hb hK hP 3 1 rfl rfl (j := j) (by omega) (by decide) d_B_placeOf_23 ?_
        refine W.lcmp hx hb d_B_placeOf_24 ?_
        refine lv_if_ne (tgt := 37) hx hb d_B_placeOf_25 (by decide) (fun c52 => ?_) (fun c52 => ?_)
        · replace c52 := mt (lg_cmp_eq _ _).mpr c52
          refine lv_iconst (v := nI 0) hx hb d_B_placeOf_37 (by decide) ?_
          refine lv_istore (lv' := [(4, .int (nI 0)), (0, .ref (ad 0)), (1, .int (nI j)), (2, .int (nI (pl po j i))), (3, .int (nI i))]) hx hb d_B_placeOf_38 hl (by decide) rfl (fun ls hl => ?_)
          refine lv_aload_n hx hb d_B_placeOf_40 rfl (lv_at hl 1 rfl) ?_
          refine va_get (D := (dC, dI)) (ci := 0) (v := .ref (ad 3)) (C := "ClearingBooks") (T := T_B) (N := 12) hx hb hts wi_B hown hK hP 0 rfl rfl 3 (by decide) (hts _ kw_20) (fun _ h9 => h9) rfl d_B_placeOf_41 ?_
          refine lv_iload_n hx hb d_B_placeOf_44 rfl (lv_at hl 4 rfl) ?_
          refine xa_laload (f := po) hx hb hK hP 3 1 rfl rfl (j := i) (by omega) (by decide) d_B_placeOf_45 ?_
          refine lv_aload_n hx hb d_B_placeOf_46 rfl (lv_at hl 1 rfl) ?_
          refine va_get (D := (dC, dI)) (ci := 0) (v := .ref (ad 3)) (C := "ClearingBooks") (T := T_B) (N := 12) hx hb hts wi_B hown hK hP 0 rfl rfl 3 (by decide) (hts _ kw_20) (fun _ h9 => h9) rfl d_B_placeOf_47 ?_
          refine lv_iload_n hx hb d_B_placeOf_50 rfl (lv_at hl 2 rfl) ?_
          refine xa_laload (f := po) hx hb hK hP 3 1 rfl rfl (j := j) (by omega) (by decide) d_B_placeOf_51 ?_
          refine W.lcmp hx hb d_B_placeOf_52 ?_
          refine lv_if_gt (tgt := 61) hx hb d_B_placeOf_53 (by decide) (fun c53 => ?_) (fun c53 => ?_)
          · replace c53 := (lg_cmp_gt _ _).mp c53
            refine lv_iinc (v := nI (pl po j i + 1)) (lv' := [(2, .int (nI (pl po j i + 1))), (4, .int (nI 0)), (0, .ref (ad 0)), (1, .int (nI j)), (3, .int (nI i))]) hx hb d_B_placeOf_61 hl (k := 3) rfl (nI_1 (pl po j i)) (by decide) rfl (fun ls hl => ?_)
            refine lv_iinc (v := nI (i + 1)) (lv' := [(3, .int (nI (i + 1))), (2, .int (nI (pl po j i + 1))), (4, .int (nI 0)), (0, .ref (ad 0)), (1, .int (nI j))]) hx hb d_B_placeOf_64 hl (k := 4) rfl (nI_1 i) (by decide) rfl (fun ls hl => ?_)
            refine lv_goto (tgt := 4) hx hb d_B_placeOf_67 (by decide) ?_
            have hq : (po j < po i ∨ (po i = po j ∧ i < j)) := by first | exact Or.inl (by assumption) | exact Or.inr ⟨by assumption, by omega⟩ | (rintro (h8 | ⟨h8, h7⟩) <;> first | contradiction | omega)
            exact ih (i + 1) ls (by omega) (by rw [pl_y hq]; exact lv_sub hl [3, 4, 1, 0] rfl)
          · replace c53 := mt (lg_cmp_gt _ _).mpr c53
            refine lv_iload hx hb d_B_placeOf_56 (lv_at hl 0 rfl) ?_
            refine lv_if_eq (tgt := 64) hx hb d_B_placeOf_58 (by decide) (fun c54 => ?_) (fun c54 => ?_)
            · refine lv_iinc (v := nI (i + 1)) (lv' := [(3, .int (nI (i + 1))), (4, .int (nI 0)), (0, .ref (ad 0)), (1, .int (nI j)), (2, .int (nI (pl po j i)))]) hx hb d_B_placeOf_64 hl (k := 4) rfl (nI_1 i) (by decide) rfl (fun ls hl => ?_)
              refine lv_goto (tgt := 4) hx hb d_B_placeOf_67 (by decide) ?_
              have hq : ¬ (po j < po i ∨ (po i = po j ∧ i < j)) := by first | exact Or.inl (by assumption) | exact Or.inr ⟨by assumption, by omega⟩ | (rintro (h8 | ⟨h8, h7⟩) <;> first | contradiction | omega)
              exact ih (i + 1) ls (by omega) (by rw [pl_n hq]; exact lv_sub hl [2, 3, 4, 0] rfl)
            · exact absurd rfl c54
        · replace c52 := (lg_cmp_eq _ _).mp c52
          refine lv_iload_n hx hb d_B_placeOf_28 rfl (lv_at hl 3 rfl) ?_
          refine lv_iload_n hx hb d_B_placeOf_29 rfl (lv_at hl 1 rfl) ?_
          refine lv_icmp_ge (tgt := 37) hx hb d_B_placeOf_30 (by decide) (fun c55 => ?_) (fun c55 => ?_)
          · replace c55 := (nI_leI (by omega) (by omega)).mp c55
            refine lv_iconst (v := nI 0) hx hb d_B_placeOf_37 (by decide) ?_
            refine lv_istore (lv' := [(4, .int (nI 0)), (0, .ref (ad 0)), (1, .int (nI j)), (2, .int (nI (pl po j i))), (3, .int (nI i))]) hx hb d_B_placeOf_38 hl (by decide) rfl (fun ls hl => ?_)
            refine lv_aload_n hx hb d_B_placeOf_40 rfl (lv_at hl 1 rfl) ?_
            refine va_get (D := (dC, dI)) (ci := 0) (v := .ref (ad 3)) (C := "ClearingBooks") (T := T_B) (N := 12) hx hb hts wi_B hown hK hP 0 rfl rfl 3 (by decide) (hts _ kw_20) (fun _ h9 => h9) rfl d_B_placeOf_41 ?_
            refine lv_iload_n hx hb d_B_placeOf_44 rfl (lv_at hl 4 rfl) ?_
            refine xa_laload (f := po) hx hb hK hP 3 1 rfl rfl (j := i) (by omega) (by decide) d_B_placeOf_45 ?_
            refine lv_aload_n hx hb d_B_placeOf_46 rfl (lv_at hl 1 rfl) ?_
            refine va_get (D := (dC, dI)) (ci := 0) (v := .ref (ad 3)) (C := "ClearingBooks") (T := T_B) (N := 12) hx hb hts wi_B hown hK hP 0 rfl rfl 3 (by decide) (hts _ kw_20) (fun _ h9 => h9) rfl d_B_placeOf_47 ?_
            refine lv_iload_n hx hb d_B_placeOf_50 rfl (lv_at hl 2 rfl) ?_
            refine xa_laload (f := po) hx hb hK hP 3 1 rfl rfl (j := j) (by omega) (by decide) d_B_placeOf_51 ?_
            refine W.lcmp hx hb d_B_placeOf_52 ?_
            refine lv_if_gt (tgt := 61) hx hb d_B_placeOf_53 (by decide) (fun c56 => ?_) (fun c56 => ?_)
            · replace c56 := (lg_cmp_gt _ _).mp c56
              refine lv_iinc (v := nI (pl po j i + 1)) (lv' := [(2, .int (nI (pl po j i + 1))), (4, .int (nI 0)), (0, .ref (ad 0)), (1, .int (nI j)), (3, .int (nI i))]) hx hb d_B_placeOf_61 hl (k := 3) rfl (nI_1 (pl po j i)) (by decide) rfl (fun ls hl => ?_)
              refine lv_iinc (v := nI (i + 1)) (lv' := [(3, .int (nI (i + 1))), (2, .int (nI (pl po j i + 1))), (4, .int (nI 0)), (0, .ref (ad 0)), (1, .int (nI j))]) hx hb d_B_placeOf_64 hl (k := 4) rfl (nI_1 i) (by decide) rfl (fun ls hl => ?_)
              refine lv_goto (tgt := 4) hx hb d_B_placeOf_67 (by decide) ?_
              have hq : (po j < po i ∨ (po i = po j ∧ i < j)) := by first | exact Or.inl (by assumption) | exact Or.inr ⟨by assumption, by omega⟩ | (rintro (h8 | ⟨h8, h7⟩) <;> first | contradiction | omega)
              exact ih (i + 1) ls (by omega) (by rw [pl_y hq]; exact lv_sub hl [3, 4, 1, 0] rfl)
            · replace c56 := mt (lg_cmp_gt _ _).mpr c56
              refine lv_iload hx hb d_B_placeOf_56 (lv_at hl 0 rfl) ?_
              refine lv_if_eq (tgt := 64) hx hb d_B_placeOf_58 (by decide) (fun c57 => ?_) (fun c57 => ?_)
              · refine lv_iinc (v := nI (i + 1)) (lv' := [(3, .int (nI (i + 1))), (4, .int (nI 0)), (0, .ref (ad 0)), (1, .int (nI j)), (2, .int (nI (pl po j i)))]) hx hb d_B_placeOf_64 hl (k := 4) rfl (nI_1 i) (by decide) rfl (fun ls hl => ?_)
                refine lv_goto (tgt := 4) hx hb d_B_placeOf_67 (by decide) ?_
                have hq : ¬ (po j < po i ∨ (po i = po j ∧ i < j)) := by first | exact Or.inl (by assumption) | exact Or.inr ⟨by assumption, by omega⟩ | (rintro (h8 | ⟨h8, h7⟩) <;> first | contradiction | omega)
                exact ih (i + 1) ls (by omega) (by rw [pl_n hq]; exact lv_sub hl [2, 3, 4, 0] rfl)
              · exact absurd rfl c57
          · replace c55 := mt (nI_leI (by omega) (by omega)).mpr c55
            refine lv_iconst (v := nI 1) hx hb d_B_placeOf_33 (by decide) ?_
            refine lv_goto (tgt := 38) hx hb d_B_placeOf_34 (by decide) ?_
            refine lv_istore (lv' := [(4, .int (nI 1)), (0, .ref (ad 0)), (1, .int (nI j)), (2, .int (nI (pl po j i))), (3, .int (nI i))]) hx hb d_B_placeOf_38 hl (by decide) rfl (fun ls hl => ?_)
            refine lv_aload_n hx hb d_B_placeOf_40 rfl (lv_at hl 1 rfl) ?_
            refine va_get (D := (dC, dI)) (ci := 0) (v := .ref (ad 3)) (C := "ClearingBooks") (T := T_B) (N := 12) hx hb hts wi_B hown hK hP 0 rfl rfl 3 (by decide) (hts _ kw_20) (fun _ h9 => h9) rfl d_B_placeOf_41 ?_
            refine lv_iload_n hx hb d_B_placeOf_44 rfl (lv_at hl 4 rfl) ?_
            refine xa_laload (f := po) hx hb hK hP 3 1 rfl rfl (j := i) (by omega) (by decide) d_B_placeOf_45 ?_
            refine lv_aload_n hx hb d_B_placeOf_46 rfl (lv_at hl 1 rfl) ?_
            refine va_get (D := (dC, dI)) (ci := 0) (v := .ref (ad 3)) (C := "ClearingBooks") (T := T_B) (N := 12) hx hb hts wi_B hown hK hP 0 rfl rfl 3 (by decide) (hts _ kw_20) (fun _ h9 => h9) rfl d_B_placeOf_47 ?_
            refine lv_iload_n hx hb d_B_placeOf_50 rfl (lv_at hl 2 rfl) ?_
            refine xa_laload (f := po) hx hb hK hP 3 1 rfl rfl (j := j) (by omega) (by decide) d_B_placeOf_51 ?_
            refine W.lcmp hx hb d_B_placeOf_52 ?_
            refine lv_if_gt (tgt := 61) hx hb d_B_placeOf_53 (by decide) (fun c58 => ?_) (fun c58 => ?_)
            · replace c58 := (lg_cmp_gt _ _).mp c58
              refine lv_iinc (v := nI (pl po j i + 1)) (lv' := [(2, .int (nI (pl po j i + 1))), (4, .int (nI 1)), (0, .ref (ad 0)), (1, .int (nI j)), (3, .int (nI i))]) hx hb d_B_placeOf_61 hl (k := 3) rfl (nI_1 (pl po j i)) (by decide) rfl (fun ls hl => ?_)
              refine lv_iinc (v := nI (i + 1)) (lv' := [(3, .int (nI (i + 1))), (2, .int (nI (pl po j i + 1))), (4, .int (nI 1)), (0, .ref (ad 0)), (1, .int (nI j))]) hx hb d_B_placeOf_64 hl (k := 4) rfl (nI_1 i) (by decide) rfl (fun ls hl => ?_)
              refine lv_goto (tgt := 4) hx hb d_B_placeOf_67 (by decide) ?_
              have hq : (po j < po i ∨ (po i = po j ∧ i < j)) := by first | exact Or.inl (by assumption) | exact Or.inr ⟨by assumption, by omega⟩ | (rintro (h8 | ⟨h8, h7⟩) <;> first | contradiction | omega)
              exact ih (i + 1) ls (by omega) (by rw [pl_y hq]; exact lv_sub hl [3, 4, 1, 0] rfl)
            · replace c58 := mt (lg_cmp_gt _ _).mpr c58
              refine lv_iload hx hb d_B_placeOf_56 (lv_at hl 0 rfl) ?_
              refine lv_if_eq (tgt := 64) hx hb d_B_placeOf_58 (by decide) (fun c59 => ?_) (fun c59 => ?_)
              · exact absurd c59 (by decide)
              · refine lv_iinc (v := nI (pl po j i + 1)) (lv' := [(2, .int (nI (pl po j i + 1))), (4, .int (nI 1)), (0, .ref (ad 0)), (1, .int (nI j)), (3, .int (nI i))]) hx hb d_B_placeOf_61 hl (k := 3) rfl (nI_1 (pl po j i)) (by decide) rfl (fun ls hl => ?_)
                refine lv_iinc (v := nI (i + 1)) (lv' := [(3, .int (nI (i + 1))), (2, .int (nI (pl po j i + 1))), (4, .int (nI 1)), (0, .ref (ad 0)), (1, .int (nI j))]) hx hb d_B_placeOf_64 hl (k := 4) rfl (nI_1 i) (by decide) rfl (fun ls hl => ?_)
                refine lv_goto (tgt := 4) hx hb d_B_placeOf_67 (by decide) ?_
                have hq : (po j < po i ∨ (po i = po j ∧ i < j)) := by first | exact Or.inl (by assumption) | exact Or.inr ⟨by assumption, by omega⟩ | (rintro (h8 | ⟨h8, h7⟩) <;> first | contradiction | omega)
                exact ih (i + 1) ls (by omega) (by rw [pl_y hq]; exact lv_sub hl [3, 4, 1, 0] rfl)
  exact loop n 0 ls (by omega) (lv_sub hl [2, 3, 1, 0] rfl)
set_option maxHeartbeats 4000000 in
set_option maxRecDepth 100000 in
theorem c_parties (l : Launch) (dC : Nat → ClassId) (dI : Nat → Nat → Nat) (ad : Nat → Nat) (cI cJ : ClassId) (n tc : Nat) (ki ra : Nat → Int32) (po se : Nat → Int64) (bc : Nat → Int32) (bs op : Nat → Int64) (pr pe : Nat → Int32) (pm : Nat → Int64)  : Met l y_B_parties (.code y_B_parties b_B_parties 1 (some .int) :: wAll) ({ frames := 0, cells := 0, slots := 0, locals := 0 } : Room) (ro_P [.ref (ad 0)] (dC, dI) vwCl [(cI, .int), (cJ, .long)] (cb_w ad cI cJ n tc ki ra po se bc bs op pr pe pm) (fun _ => True)) (ro_Q (some (.int (nI n)))) 0 0 (fun _ => False) := by
  refine Met.ofW (cc := b_B_parties) (maxL := 1) (ret := (some .int)) (by decide) rfl ?_
  intro p e s m args below meth c s₁ B hml hv
  obtain ⟨rfl, hP, hK, hB⟩ := hv
  have hx := B.exec
  have hb := B.bytes
  have hr := B.returns
  have hts0 := atoms_spec (ws := (.code y_B_parties b_B_parties 1 (some .int) :: wAll)) B.pre
  have hts := hts_all hts0
  have hown : s.vm.findClass "ClearingBooks" = some m.cls := findClass_of_methodNamed B.named
  have hlocks := B.notSynchronized
  have hl := lv_entry ([.ref (ad 0)]) (n := 1) (Nat.le_of_ble_eq_true rfl)
  rw [lg_entry_eq]
  generalize (lg_sl ([.ref (ad 0)]) ++ List.replicate (1 - (lg_sl ([.ref (ad 0)])).length) Slot.unset).toArray = ls at hl ⊢
  have hl : lv_has ls 1 [(0, .ref (ad 0))] := hl
  refine lv_aload_n hx hb d_B_parties_0 rfl (lv_at hl 0 rfl) ?_
  refine va_get (D := (dC, dI)) (ci := 0) (v := .int (nI n)) (C := "ClearingBooks") (T := T_B) (N := 12) hx hb hts wi_B hown hK hP 0 rfl rfl 0 (by decide) (hts _ kw_17) (fun _ h9 => h9) rfl d_B_parties_1 ?_
  exact W.iret (v := nI n) hx hb hr (fun t ht hW => ⟨rfl, ht⟩) (fun q hq => by cases hq) d_B_parties_4
