/-- the reference's cells, alike -/
abbrev md_w (ad : Nat → Nat) (cI cJ : ClassId) (cd n tc : Nat) (ki ra : Nat → Int32) (po se : Nat → Int64) (bc : Nat → Int32) (bs op : Nat → Int64) (pr pe : Nat → Int32) (pm : Nat → Int64) : va_W := [(ad 0, .inr (1, [.int (nI cd), .int (nI n), .ref (ad 1), .ref (ad 2), .ref (ad 3), .ref (ad 4), .ref (ad 5), .ref (ad 6), .ref (ad 7), .int (nI tc), .ref (ad 8), .ref (ad 9), .ref (ad 10)])), (ad 1, .inl (cI, 15, .inl ki)), (ad 2, .inl (cI, 15, .inl ra)), (ad 3, .inl (cJ, 15, .inr (.inl po))), (ad 4, .inl (cJ, 15, .inr (.inl se))), (ad 5, .inl (cI, 15, .inl bc)), (ad 6, .inl (cJ, 15, .inr (.inl bs))), (ad 7, .inl (cJ, 15, .inr (.inl op))), (ad 8, .inl (cI, 15, .inl pr)), (ad 9, .inl (cI, 15, .inl pe)), (ad 10, .inl (cJ, 15, .inr (.inl pm)))]
set_option maxHeartbeats 4000000 in
set_option maxRecDepth 100000 in
theorem m_thrown (l : Launch) (dC : Nat → ClassId) (dI : Nat → Nat → Nat) (ad : Nat → Nat) (cI cJ : ClassId) (cd n tc : Nat) (ki ra : Nat → Int32) (po se : Nat → Int64) (bc : Nat → Int32) (bs op : Nat → Int64) (pr pe : Nat → Int32) (pm : Nat → Int64)  : Met l y_M_thrown (.code y_M_thrown b_M_thrown 1 (some .int) :: wAll) ({ frames := 0, cells := 0, slots := 0, locals := 0 } : Room) (ro_P [.ref (ad 0)] (dC, dI) vwCl [(cI, .int), (cJ, .long)] (md_w ad cI cJ cd n tc ki ra po se bc bs op pr pe pm) (fun _ => True)) (ro_Q (some (.int (nI cd)))) 0 0 (fun _ => False) := by
  refine Met.ofW (cc := b_M_thrown) (maxL := 1) (ret := (some .int)) (by decide) rfl ?_
  intro p e s m args below meth c s₁ B hml hv
  obtain ⟨rfl, hP, hK, hB⟩ := hv
  have hx := B.exec
  have hb := B.bytes
  have hr := B.returns
  have hts0 := atoms_spec (ws := (.code y_M_thrown b_M_thrown 1 (some .int) :: wAll)) B.pre
  have hts := hts_all hts0
  have hown : s.vm.findClass "ClearingBooksModel" = some m.cls := findClass_of_methodNamed B.named
  have hlocks := B.notSynchronized
  have hl := lv_entry ([.ref (ad 0)]) (n := 1) (Nat.le_of_ble_eq_true rfl)
  rw [lg_entry_eq]
  generalize (lg_sl ([.ref (ad 0)]) ++ List.replicate (1 - (lg_sl ([.ref (ad 0)])).length) Slot.unset).toArray = ls at hl ⊢
  have hl : lv_has ls 1 [(0, .ref (ad 0))] := hl
  refine lv_aload_n hx hb d_M_thrown_0 rfl (lv_at hl 0 rfl) ?_
  refine va_get (D := (dC, dI)) (ci := 1) (v := .int (nI cd)) (C := "ClearingBooksModel") (T := T_M) (N := 13) hx hb hts wi_M hown hK hP 0 rfl rfl 0 (by decide) (hts _ kw_273) (fun _ h9 => h9) rfl d_M_thrown_1 ?_
  exact W.iret (v := nI cd) hx hb hr (fun t ht hW => ⟨rfl, ht⟩) (fun q hq => by cases hq) d_M_thrown_4
set_option maxHeartbeats 4000000 in
set_option maxRecDepth 100000 in
theorem m_is_y (l : Launch) (dC : Nat → ClassId) (dI : Nat → Nat → Nat) (ad : Nat → Nat) (cI cJ : ClassId) (cd n tc : Nat) (ki ra : Nat → Int32) (po se : Nat → Int64) (bc : Nat → Int32) (bs op : Nat → Int64) (pr pe : Nat → Int32) (pm : Nat → Int64) (j : Nat) (k : Int32) (hj0 : 0 < j) (hj : j < n) (hn : n ≤ 15) (hk : ki j = k) : Met l y_M_is (.code y_M_is b_M_is 3 (some .boolean) :: wAll) ({ frames := 0, cells := 0, slots := 0, locals := 0 } : Room) (ro_P [.ref (ad 0), .int (nI j), .int k] (dC, dI) vwCl [(cI, .int), (cJ, .long)] (md_w ad cI cJ cd n tc ki ra po se bc bs op pr pe pm) (fun _ => True)) (ro_Q (some (.int (nI 1)))) 0 0 (fun _ => False) := by
  refine Met.ofW (cc := b_M_is) (maxL := 3) (ret := (some .boolean)) (by decide) rfl ?_
  intro p e s m args below meth c s₁ B hml hv
  obtain ⟨rfl, hP, hK, hB⟩ := hv
  have hx := B.exec
  have hb := B.bytes
  have hr := B.returns
  have hts0 := atoms_spec (ws := (.code y_M_is b_M_is 3 (some .boolean) :: wAll)) B.pre
  have hts := hts_all hts0
  have hown : s.vm.findClass "ClearingBooksModel" = some m.cls := findClass_of_methodNamed B.named
  have hlocks := B.notSynchronized
  have hl := lv_entry ([.ref (ad 0), .int (nI j), .int k]) (n := 3) (Nat.le_of_ble_eq_true rfl)
  rw [lg_entry_eq]
  generalize (lg_sl ([.ref (ad 0), .int (nI j), .int k]) ++ List.replicate (3 - (lg_sl ([.ref (ad 0), .int (nI j), .int k])).length) Slot.unset).toArray = ls at hl ⊢
  have hl : lv_has ls 3 [(0, .ref (ad 0)), (1, .int (nI j)), (2, .int k)] := hl
  refine lv_iload_n hx hb d_M_is_0 rfl (lv_at hl 1 rfl) ?_
  refine lv_if_le (tgt := 26) hx hb d_M_is_1 (by decide) (fun c1 => ?_) (fun c1 => ?_)
  · exact absurd c1 (nI_nle hj0 (by omega))
  · refine lv_iload_n hx hb d_M_is_4 rfl (lv_at hl 1 rfl) ?_
    refine lv_aload_n hx hb d_M_is_5 rfl (lv_at hl 0 rfl) ?_
    refine va_get (D := (dC, dI)) (ci := 1) (v := .int (nI n)) (C := "ClearingBooksModel") (T := T_M) (N := 13) hx hb hts wi_M hown hK hP 0 rfl rfl 1 (by decide) (hts _ kw_274) (fun _ h9 => h9) rfl d_M_is_6 ?_
    refine lv_icmp_ge (tgt := 26) hx hb d_M_is_9 (by decide) (fun c2 => ?_) (fun c2 => ?_)
    · replace c2 := (nI_leI (by omega) (by omega)).mp c2
      exfalso; omega
    · replace c2 := mt (nI_leI (by omega) (by omega)).mpr c2
      refine lv_aload_n hx hb d_M_is_12 rfl (lv_at hl 0 rfl) ?_
      refine va_get (D := (dC, dI)) (ci := 1) (v := .ref (ad 1)) (C := "ClearingBooksModel") (T := T_M) (N := 13) hx hb hts wi_M hown hK hP 0 rfl rfl 2 (by decide) (hts _ kw_275) (fun _ h9 => h9) rfl d_M_is_13 ?_
      refine lv_iload_n hx hb d_M_is_16 rfl (lv_at hl 1 rfl) ?_
      refine xa_iaload (f := ki) hx hb hK hP 1 0 rfl rfl (j := j) (by omega) (by decide) d_M_is_17 ?_
      refine lv_iload_n hx hb d_M_is_18 rfl (lv_at hl 2 rfl) ?_
      refine lv_icmp_ne (tgt := 26) hx hb d_M_is_19 (by decide) (fun c3 => ?_) (fun c3 => ?_)
      · exact absurd hk c3
      · refine lv_iconst (v := nI 1) hx hb d_M_is_22 (by decide) ?_
        refine lv_goto (tgt := 27) hx hb d_M_is_23 (by decide) ?_
        exact W.zret (v := nI 1) hx hb hr rfl (fun t ht hW => ⟨rfl, ht⟩) (fun q hq => by cases hq) d_M_is_27
set_option maxHeartbeats 4000000 in
set_option maxRecDepth 100000 in
theorem m_is_n1 (l : Launch) (dC : Nat → ClassId) (dI : Nat → Nat → Nat) (ad : Nat → Nat) (cI cJ : ClassId) (cd n tc : Nat) (ki ra : Nat → Int32) (po se : Nat → Int64) (bc : Nat → Int32) (bs op : Nat → Int64) (pr pe : Nat → Int32) (pm : Nat → Int64) (x k : Int32) (hno : ¬ (¬ x ≤ 0 ∧ x < nI n)) : Met l y_M_is (.code y_M_is b_M_is 3 (some .boolean) :: wAll) ({ frames := 0, cells := 0, slots := 0, locals := 0 } : Room) (ro_P [.ref (ad 0), .int x, .int k] (dC, dI) vwCl [(cI, .int), (cJ, .long)] (md_w ad cI cJ cd n tc ki ra po se bc bs op pr pe pm) (fun _ => True)) (ro_Q (some (.int (nI 0)))) 0 0 (fun _ => False) := by
  refine Met.ofW (cc := b_M_is) (maxL := 3) (ret := (some .boolean)) (by decide) rfl ?_
  intro p e s m args below meth c s₁ B hml hv
  obtain ⟨rfl, hP, hK, hB⟩ := hv
  have hx := B.exec
  have hb := B.bytes
  have hr := B.returns
  have hts0 := atoms_spec (ws := (.code y_M_is b_M_is 3 (some .boolean) :: wAll)) B.pre
  have hts := hts_all hts0
  have hown : s.vm.findClass "ClearingBooksModel" = some m.cls := findClass_of_methodNamed B.named
  have hlocks := B.notSynchronized
  have hl := lv_entry ([.ref (ad 0), .int x, .int k]) (n := 3) (Nat.le_of_ble_eq_true rfl)
  rw [lg_entry_eq]
  generalize (lg_sl ([.ref (ad 0), .int x, .int k]) ++ List.replicate (3 - (lg_sl ([.ref (ad 0), .int x, .int k])).length) Slot.unset).toArray = ls at hl ⊢
  have hl : lv_has ls 3 [(0, .ref (ad 0)), (1, .int x), (2, .int k)] := hl
  refine lv_iload_n hx hb d_M_is_0 rfl (lv_at hl 1 rfl) ?_
  refine lv_if_le (tgt := 26) hx hb d_M_is_1 (by decide) (fun c1 => ?_) (fun c1 => ?_)
  · refine lv_iconst (v := nI 0) hx hb d_M_is_26 (by decide) ?_
    exact W.zret (v := nI 0) hx hb hr rfl (fun t ht hW => ⟨rfl, ht⟩) (fun q hq => by cases hq) d_M_is_27
  · refine lv_iload_n hx hb d_M_is_4 rfl (lv_at hl 1 rfl) ?_
    refine lv_aload_n hx hb d_M_is_5 rfl (lv_at hl 0 rfl) ?_
    refine va_get (D := (dC, dI)) (ci := 1) (v := .int (nI n)) (C := "ClearingBooksModel") (T := T_M) (N := 13) hx hb hts wi_M hown hK hP 0 rfl rfl 1 (by decide) (hts _ kw_274) (fun _ h9 => h9) rfl d_M_is_6 ?_
    refine lv_icmp_ge (tgt := 26) hx hb d_M_is_9 (by decide) (fun c2 => ?_) (fun c2 => ?_)
    · refine lv_iconst (v := nI 0) hx hb d_M_is_26 (by decide) ?_
      exact W.zret (v := nI 0) hx hb hr rfl (fun t ht hW => ⟨rfl, ht⟩) (fun q hq => by cases hq) d_M_is_27
    · exact absurd ⟨c1, Int32.not_le.mp c2⟩ hno
set_option maxHeartbeats 4000000 in
set_option maxRecDepth 100000 in
theorem m_is_n2 (l : Launch) (dC : Nat → ClassId) (dI : Nat → Nat → Nat) (ad : Nat → Nat) (cI cJ : ClassId) (cd n tc : Nat) (ki ra : Nat → Int32) (po se : Nat → Int64) (bc : Nat → Int32) (bs op : Nat → Int64) (pr pe : Nat → Int32) (pm : Nat → Int64) (j : Nat) (k : Int32) (hj0 : 0 < j) (hj : j < n) (hn : n ≤ 15) (hk : ¬ ki j = k) : Met l y_M_is (.code y_M_is b_M_is 3 (some .boolean) :: wAll) ({ frames := 0, cells := 0, slots := 0, locals := 0 } : Room) (ro_P [.ref (ad 0), .int (nI j), .int k] (dC, dI) vwCl [(cI, .int), (cJ, .long)] (md_w ad cI cJ cd n tc ki ra po se bc bs op pr pe pm) (fun _ => True)) (ro_Q (some (.int (nI 0)))) 0 0 (fun _ => False) := by
  refine Met.ofW (cc := b_M_is) (maxL := 3) (ret := (some .boolean)) (by decide) rfl ?_
  intro p e s m args below meth c s₁ B hml hv
  obtain ⟨rfl, hP, hK, hB⟩ := hv
  have hx := B.exec
  have hb := B.bytes
  have hr := B.returns
  have hts0 := atoms_spec (ws := (.code y_M_is b_M_is 3 (some .boolean) :: wAll)) B.pre
  have hts := hts_all hts0
  have hown : s.vm.findClass "ClearingBooksModel" = some m.cls := findClass_of_methodNamed B.named
  have hlocks := B.notSynchronized
  have hl := lv_entry ([.ref (ad 0), .int (nI j), .int k]) (n := 3) (Nat.le_of_ble_eq_true rfl)
  rw [lg_entry_eq]
  generalize (lg_sl ([.ref (ad 0), .int (nI j), .int k]) ++ List.replicate (3 - (lg_sl ([.ref (ad 0), .int (nI j), .int k])).length) Slot.unset).toArray = ls at hl ⊢
  have hl : lv_has ls 3 [(0, .ref (ad 0)), (1, .int (nI j)), (2, .int k)] := hl
  refine lv_iload_n hx hb d_M_is_0 rfl (lv_at hl 1 rfl) ?_
  refine lv_if_le (tgt := 26) hx hb d_M_is_1 (by decide) (fun c1 => ?_) (fun c1 => ?_)
  · exact absurd c1 (nI_nle hj0 (by omega))
  · refine lv_iload_n hx hb d_M_is_4 rfl (lv_at hl 1 rfl) ?_
    refine lv_aload_n hx hb d_M_is_5 rfl (lv_at hl 0 rfl) ?_
    refine va_get (D := (dC, dI)) (ci := 1) (v := .int (nI n)) (C := "ClearingBooksModel") (T := T_M) (N := 13) hx hb hts wi_M hown hK hP 0 rfl rfl 1 (by decide) (hts _ kw_274) (fun _ h9 => h9) rfl d_M_is_6 ?_
    refine lv_icmp_ge (tgt := 26) hx hb d_M_is_9 (by decide) (fun c2 => ?_) (fun c2 => ?_)
    · replace c2 := (nI_leI (by omega) (by omega)).mp c2
      exfalso; omega
    · replace c2 := mt (nI_leI (by omega) (by omega)).mpr c2
      refine lv_aload_n hx hb d_M_is_12 rfl (lv_at hl 0 rfl) ?_
      refine va_get (D := (dC, dI)) (ci := 1) (v := .ref (ad 1)) (C := "ClearingBooksModel") (T := T_M) (N := 13) hx hb hts wi_M hown hK hP 0 rfl rfl 2 (by decide) (hts _ kw_275) (fun _ h9 => h9) rfl d_M_is_13 ?_
      refine lv_iload_n hx hb d_M_is_16 rfl (lv_at hl 1 rfl) ?_
      refine xa_iaload (f := ki) hx hb hK hP 1 0 rfl rfl (j := j) (by omega) (by decide) d_M_is_17 ?_
      refine lv_iload_n hx hb d_M_is_18 rfl (lv_at hl 2 rfl) ?_
      refine lv_icmp_ne (tgt := 26) hx hb d_M_is_19 (by decide) (fun c3 => ?_) (fun c3 => ?_)
      · refine lv_iconst (v := nI 0) hx hb d_M_is_26 (by decide) ?_
        exact W.zret (v := nI 0) hx hb hr rfl (fun t ht hW => ⟨rfl, ht⟩) (fun q hq => by cases hq) d_M_is_27
      · exact absurd c3 hk
set_option maxHeartbeats 4000000 in
set_option maxRecDepth 100000 in
theorem m_is_n (l : Launch) (dC : Nat → ClassId) (dI : Nat → Nat → Nat) (ad : Nat → Nat) (cI cJ : ClassId) (cd n tc : Nat) (ki ra : Nat → Int32) (po se : Nat → Int64) (bc : Nat → Int32) (bs op : Nat → Int64) (pr pe : Nat → Int32) (pm : Nat → Int64) (x k : Int32) (hn : n ≤ 15) (hno : ¬ is_k n ki x k) : Met l y_M_is (.code y_M_is b_M_is 3 (some .boolean) :: wAll) ({ frames := 0, cells := 0, slots := 0, locals := 0 } : Room) (ro_P [.ref (ad 0), .int x, .int k] (dC, dI) vwCl [(cI, .int), (cJ, .long)] (md_w ad cI cJ cd n tc ki ra po se bc bs op pr pe pm) (fun _ => True)) (ro_Q (some (.int (nI 0)))) 0 0 (fun _ => False) := by
  by_cases h : ¬ x ≤ 0 ∧ x < nI n
  · obtain ⟨j, hj, rfl⟩ := nI_of (x := x) (fun z => h.1 (Int32.le_of_lt z))
    have hjn : j < n := (nI_ltI hj (by omega)).mp h.2
    have hj0 : 0 < j := by
      rcases Nat.eq_zero_or_pos j with z | z
      · exfalso; rw [z] at h; exact h.1 (by decide)
      · exact z
    exact m_is_n2 l dC dI ad cI cJ cd n tc ki ra po se bc bs op pr pe pm j k hj0 hjn hn (fun h9 => hno ⟨j, hjn, rfl, h9⟩)
  · exact m_is_n1 l dC dI ad cI cJ cd n tc ki ra po se bc bs op pr pe pm x k h
set_option maxHeartbeats 4000000 in
set_option maxRecDepth 100000 in
theorem m_goes_y (l : Launch) (dC : Nat → ClassId) (dI : Nat → Nat → Nat) (ad : Nat → Nat) (cI cJ : ClassId) (cd n tc : Nat) (ki ra : Nat → Int32) (po se : Nat → Int64) (bc : Nat → Int32) (bs op : Nat → Int64) (pr pe : Nat → Int32) (pm : Nat → Int64) (sz : Nat)  : Met l y_M_goes (.code y_M_goes b_M_goes 2 (some .boolean) :: wAll) ({ frames := 0, cells := 0, slots := 0, locals := 0 } : Room) (mu_P [.ref (ad 0), .int (nI 1)] (dC, dI) vwCl [(cI, .int), (cJ, .long)] (md_w ad cI cJ cd n tc ki ra po se bc bs op pr pe pm) sz) (va_Qi (fun (z : Int32) (_ : Unit) => z = nI 1) (mu_B (dC, dI) vwCl [(cI, .int), (cJ, .long)] (va_A (md_w ad cI cJ cd n tc ki ra po se bc bs op pr pe pm) sz) (md_w ad cI cJ 0 n tc ki ra po se bc bs op pr pe pm)) (va_A (md_w ad cI cJ cd n tc ki ra po se bc bs op pr pe pm) sz)) 0 0 (va_A (md_w ad cI cJ cd n tc ki ra po se bc bs op pr pe pm) sz) := by
  refine Met.ofW (cc := b_M_goes) (maxL := 2) (ret := (some .boolean)) (by decide) rfl ?_
  intro p e s m args below meth c s₁ B hml hv
  obtain ⟨rfl, hsz, hP, hK, hD0⟩ := hv
  have hx := B.exec
  have hb := B.bytes
  have hr := B.returns
  have hts0 := atoms_spec (ws := (.code y_M_goes b_M_goes 2 (some .boolean) :: wAll)) B.pre
  have hts := hts_all hts0
  have hown : s.vm.findClass "ClearingBooksModel" = some m.cls := findClass_of_methodNamed B.named
  have hlocks := B.notSynchronized
  subst hsz
  have hD := hD0.self (sz := s.heap.size)
  generalize hAe : va_A (md_w ad cI cJ cd n tc ki ra po se bc bs op pr pe pm) s.heap.size = A at hD ⊢
  have hA : ∀ q : Nat, s.heap.size ≤ q → A q := fun q h => by rw [← hAe]; exact Or.inr h
  have hS : va_S A s.heap s.heap [] := va_S.rf
  have hl := lv_entry ([.ref (ad 0), .int (nI 1)]) (n := 2) (Nat.le_of_ble_eq_true rfl)
  rw [lg_entry_eq]
  generalize (lg_sl ([.ref (ad 0), .int (nI 1)]) ++ List.replicate (2 - (lg_sl ([.ref (ad 0), .int (nI 1)])).length) Slot.unset).toArray = ls at hl ⊢
  have hl : lv_has ls 2 [(0, .ref (ad 0)), (1, .int (nI 1))] := hl
  refine lv_aload_n hx hb d_M_goes_0 rfl (lv_at hl 0 rfl) ?_
  refine lv_iload_n hx hb d_M_goes_1 rfl (lv_at hl 1 rfl) ?_
  refine lv_if_eq (tgt := 9) hx hb d_M_goes_2 (by decide) (fun c1 => ?_) (fun c1 => ?_)
  · exact absurd c1 (by decide)
  · refine lv_iconst (v := nI 0) hx hb d_M_goes_5 (by decide) ?_
    refine lv_goto (tgt := 10) hx hb d_M_goes_6 (by decide) ?_
    refine va_put (D := (dC, dI)) (ci := 1) (v := .int (nI 0)) (ty := .int) (C := "ClearingBooksModel") (T := T_M) (N := 13) hx hb hts wi_M ty_M tyok_M nm_M hown hK hP hD hS 0 rfl rfl 0 (by decide) (hts _ kw_273) (fun _ h9 => h9) rfl (by decide +kernel) rfl rfl (Nat.le_of_ble_eq_true rfl) d_M_goes_10 (fun H locs hP hD hS => ?_)
    have hP : va_P (dC, dI) vwCl (md_w ad cI cJ 0 n tc ki ra po se bc bs op pr pe pm) H := hP
    have hD : va_D A (md_w ad cI cJ 0 n tc ki ra po se bc bs op pr pe pm) := hD
    refine lv_iload_n hx hb d_M_goes_13 rfl (lv_at hl 1 rfl) ?_
    exact W.zret (v := nI 1) hx hb hr rfl (fun t ht hW => ⟨⟨nI 1, (), rfl, rfl, by rw [ht]; exact hP, va_K.moved hW.alike hK, hD⟩, hS.F ht⟩) hS.2.2 d_M_goes_14
set_option maxHeartbeats 4000000 in
set_option maxRecDepth 100000 in
theorem m_goes_n (l : Launch) (dC : Nat → ClassId) (dI : Nat → Nat → Nat) (ad : Nat → Nat) (cI cJ : ClassId) (cd n tc : Nat) (ki ra : Nat → Int32) (po se : Nat → Int64) (bc : Nat → Int32) (bs op : Nat → Int64) (pr pe : Nat → Int32) (pm : Nat → Int64) (sz : Nat)  : Met l y_M_goes (.code y_M_goes b_M_goes 2 (some .boolean) :: wAll) ({ frames := 0, cells := 0, slots := 0, locals := 0 } : Room) (mu_P [.ref (ad 0), .int (nI 0)] (dC, dI) vwCl [(cI, .int), (cJ, .long)] (md_w ad cI cJ cd n tc ki ra po se bc bs op pr pe pm) sz) (va_Qi (fun (z : Int32) (_ : Unit) => z = nI 0) (mu_B (dC, dI) vwCl [(cI, .int), (cJ, .long)] (va_A (md_w ad cI cJ cd n tc ki ra po se bc bs op pr pe pm) sz) (md_w ad cI cJ 1 n tc ki ra po se bc bs op pr pe pm)) (va_A (md_w ad cI cJ cd n tc ki ra po se bc bs op pr pe pm) sz)) 0 0 (va_A (md_w ad cI cJ cd n tc ki ra po se bc bs op pr pe pm) sz) := by
  refine Met.ofW (cc := b_M_goes) (maxL := 2) (ret := (some .boolean)) (by decide) rfl ?_
  intro p e s m args below meth c s₁ B hml hv
  obtain ⟨rfl, hsz, hP, hK, hD0⟩ := hv
  have hx := B.exec
  have hb := B.bytes
  have hr := B.returns
  have hts0 := atoms_spec (ws := (.code y_M_goes b_M_goes 2 (some .boolean) :: wAll)) B.pre
  have hts := hts_all hts0
  have hown : s.vm.findClass "ClearingBooksModel" = some m.cls := findClass_of_methodNamed B.named
  have hlocks := B.notSynchronized
  subst hsz
  have hD := hD0.self (sz := s.heap.size)
  generalize hAe : va_A (md_w ad cI cJ cd n tc ki ra po se bc bs op pr pe pm) s.heap.size = A at hD ⊢
  have hA : ∀ q : Nat, s.heap.size ≤ q → A q := fun q h => by rw [← hAe]; exact Or.inr h
  have hS : va_S A s.heap s.heap [] := va_S.rf
  have hl := lv_entry ([.ref (ad 0), .int (nI 0)]) (n := 2) (Nat.le_of_ble_eq_true rfl)
  rw [lg_entry_eq]
  generalize (lg_sl ([.ref (ad 0), .int (nI 0)]) ++ List.replicate (2 - (lg_sl ([.ref (ad 0), .int (nI 0)])).length) Slot.unset).toArray = ls at hl ⊢
  have hl : lv_has ls 2 [(0, .ref (ad 0)), (1, .int (nI 0))] := hl
  refine lv_aload_n hx hb d_M_goes_0 rfl (lv_at hl 0 rfl) ?_
  refine lv_iload_n hx hb d_M_goes_1 rfl (lv_at hl 1 rfl) ?_
  refine lv_if_eq (tgt := 9) hx hb d_M_goes_2 (by decide) (fun c1 => ?_) (fun c1 => ?_)
  · refine lv_iconst (v := nI 1) hx hb d_M_goes_9 (by decide) ?_
    refine va_put (D := (dC, dI)) (ci := 1) (v := .int (nI 1)) (ty := .int) (C := "ClearingBooksModel") (T := T_M) (N := 13) hx hb hts wi_M ty_M tyok_M nm_M hown hK hP hD hS 0 rfl rfl 0 (by decide) (hts _ kw_273) (fun _ h9 => h9) rfl (by decide +kernel) rfl rfl (Nat.le_of_ble_eq_true rfl) d_M_goes_10 (fun H locs hP hD hS => ?_)
    have hP : va_P (dC, dI) vwCl (md_w ad cI cJ 1 n tc ki ra po se bc bs op pr pe pm) H := hP
    have hD : va_D A (md_w ad cI cJ 1 n tc ki ra po se bc bs op pr pe pm) := hD
    refine lv_iload_n hx hb d_M_goes_13 rfl (lv_at hl 1 rfl) ?_
    exact W.zret (v := nI 0) hx hb hr rfl (fun t ht hW => ⟨⟨nI 0, (), rfl, rfl, by rw [ht]; exact hP, va_K.moved hW.alike hK, hD⟩, hS.F ht⟩) hS.2.2 d_M_goes_14
  · exact absurd rfl c1
set_option maxHeartbeats 4000000 in
set_option maxRecDepth 100000 in
theorem m_come_y (l : Launch) (dC : Nat → ClassId) (dI : Nat → Nat → Nat) (ad : Nat → Nat) (cI cJ : ClassId) (cd n tc : Nat) (ki ra : Nat → Int32) (po se : Nat → Int64) (bc : Nat → Int32) (bs op : Nat → Int64) (pr pe : Nat → Int32) (pm : Nat → Int64) (sz : Nat) (k : Int32) (r : Nat) (hr0 : r ≤ 1000) (hn : n < 15) : Met l y_M_come (.code y_M_come b_M_come 3 (some .int) :: wAll) ({ frames := 0, cells := 0, slots := 0, locals := 0 } : Room) (mu_P [.ref (ad 0), .int k, .int (nI r)] (dC, dI) vwCl [(cI, .int), (cJ, .long)] (md_w ad cI cJ cd n tc ki ra po se bc bs op pr pe pm) sz) (va_Qi (fun (z : Int32) (_ : Unit) => z = nI n) (mu_B (dC, dI) vwCl [(cI, .int), (cJ, .long)] (va_A (md_w ad cI cJ cd n tc ki ra po se bc bs op pr pe pm) sz) (md_w ad cI cJ 0 (n + 1) tc (upd ki n k) (upd ra n (nI r)) po se bc bs op pr pe pm)) (va_A (md_w ad cI cJ cd n tc ki ra po se bc bs op pr pe pm) sz)) 0 0 (va_A (md_w ad cI cJ cd n tc ki ra po se bc bs op pr pe pm) sz) := by
  refine Met.ofW (cc := b_M_come) (maxL := 3) (ret := (some .int)) (by decide) rfl ?_
  intro p e s m args below meth c s₁ B hml hv
  obtain ⟨rfl, hsz, hP, hK, hD0⟩ := hv
  have hx := B.exec
  have hb := B.bytes
  have hr := B.returns
  have hts0 := atoms_spec (ws := (.code y_M_come b_M_come 3 (some .int) :: wAll)) B.pre
  have hts := hts_all hts0
  have hown : s.vm.findClass "ClearingBooksModel" = some m.cls := findClass_of_methodNamed B.named
  have hlocks := B.notSynchronized
  subst hsz
  have hD := hD0.self (sz := s.heap.size)
  generalize hAe : va_A (md_w ad cI cJ cd n tc ki ra po se bc bs op pr pe pm) s.heap.size = A at hD ⊢
  have hA : ∀ q : Nat, s.heap.size ≤ q → A q := fun q h => by rw [← hAe]; exact Or.inr h
  have hS : va_S A s.heap s.heap [] := va_S.rf
  have hl := lv_entry ([.ref (ad 0), .int k, .int (nI r)]) (n := 3) (Nat.le_of_ble_eq_true rfl)
  rw [lg_entry_eq]
  generalize (lg_sl ([.ref (ad 0), .int k, .int (nI r)]) ++ List.replicate (3 - (lg_sl ([.ref (ad 0), .int k, .int (nI r)])).length) Slot.unset).toArray = ls at hl ⊢
  have hl : lv_has ls 3 [(0, .ref (ad 0)), (1, .int k), (2, .int (nI r))] := hl
  refine lv_aload_n hx hb d_M_come_0 rfl (lv_at hl 0 rfl) ?_
  refine lv_iload_n hx hb d_M_come_1 rfl (lv_at hl 2 rfl) ?_
  refine lv_if_lt (tgt := 12) hx hb d_M_come_2 (by decide) (fun c1 => ?_) (fun c1 => ?_)
  · exact absurd c1 (nI_pos (by omega))
  · refine lv_iload_n hx hb d_M_come_5 rfl (lv_at hl 2 rfl) ?_
    refine lv_sipush (v := nI 1000) hx hb d_M_come_6 (by decide) ?_
    refine lv_icmp_le (tgt := 16) hx hb d_M_come_9 (by decide) (fun c2 => ?_) (fun c2 => ?_)
    · replace c2 := (nI_leI (by omega) (by omega)).mp c2
      refine lv_aload_n hx hb d_M_come_16 rfl (lv_at hl 0 rfl) ?_
      refine va_get (D := (dC, dI)) (ci := 1) (v := .int (nI n)) (C := "ClearingBooksModel") (T := T_M) (N := 13) hx hb hts wi_M hown hK hP 0 rfl rfl 1 (by decide) (hts _ kw_274) (fun _ h9 => h9) rfl d_M_come_17 ?_
      refine lv_bipush (v := nI 15) hx hb d_M_come_20 (by decide) ?_
      refine lv_icmp_ne (tgt := 29) hx hb d_M_come_22 (by decide) (fun c3 => ?_) (fun c3 => ?_)
      · replace c3 := mt (nI_eq (by omega) (by omega)).mpr c3
        refine lv_iconst (v := nI 0) hx hb d_M_come_29 (by decide) ?_
        refine va_put (D := (dC, dI)) (ci := 1) (v := .int (nI 0)) (ty := .int) (C := "ClearingBooksModel") (T := T_M) (N := 13) hx hb hts wi_M ty_M tyok_M nm_M hown hK hP hD hS 0 rfl rfl 0 (by decide) (hts _ kw_273) (fun _ h9 => h9) rfl (by decide +kernel) rfl rfl (Nat.le_of_ble_eq_true rfl) d_M_come_30 (fun H locs hP hD hS => ?_)
        have hP : va_P (dC, dI) vwCl (md_w ad cI cJ 0 n tc ki ra po se bc bs op pr pe pm) H := hP
        have hD : va_D A (md_w ad cI cJ 0 n tc ki ra po se bc bs op pr pe pm) := hD
        refine lv_aload_n hx hb d_M_come_33 rfl (lv_at hl 0 rfl) ?_
        refine va_get (D := (dC, dI)) (ci := 1) (v := .int (nI 0)) (C := "ClearingBooksModel") (T := T_M) (N := 13) hx hb hts wi_M hown hK hP 0 rfl rfl 0 (by decide) (hts _ kw_273) (fun _ h9 => h9) rfl d_M_come_34 ?_
        refine lv_if_le (tgt := 42) hx hb d_M_come_37 (by decide) (fun c4 => ?_) (fun c4 => ?_)
        · refine lv_aload_n hx hb d_M_come_42 rfl (lv_at hl 0 rfl) ?_
          refine va_get (D := (dC, dI)) (ci := 1) (v := .ref (ad 1)) (C := "ClearingBooksModel") (T := T_M) (N := 13) hx hb hts wi_M hown hK hP 0 rfl rfl 2 (by decide) (hts _ kw_275) (fun _ h9 => h9) rfl d_M_come_43 ?_
          refine lv_aload_n hx hb d_M_come_46 rfl (lv_at hl 0 rfl) ?_
          refine va_get (D := (dC, dI)) (ci := 1) (v := .int (nI n)) (C := "ClearingBooksModel") (T := T_M) (N := 13) hx hb hts wi_M hown hK hP 0 rfl rfl 1 (by decide) (hts _ kw_274) (fun _ h9 => h9) rfl d_M_come_47 ?_
          refine lv_iload_n hx hb d_M_come_50 rfl (lv_at hl 1 rfl) ?_
          refine xa_iastore (f := ki) (x := k) hx hb hK hP hD hS 1 0 rfl rfl (j := n) (by omega) (by decide) d_M_come_51 (fun H locs hP hD hS => ?_)
          have hP : va_P (dC, dI) vwCl (md_w ad cI cJ 0 n tc (upd ki n k) ra po se bc bs op pr pe pm) H := hP
          have hD : va_D A (md_w ad cI cJ 0 n tc (upd ki n k) ra po se bc bs op pr pe pm) := hD
          refine lv_aload_n hx hb d_M_come_52 rfl (lv_at hl 0 rfl) ?_
          refine va_get (D := (dC, dI)) (ci := 1) (v := .ref (ad 2)) (C := "ClearingBooksModel") (T := T_M) (N := 13) hx hb hts wi_M hown hK hP 0 rfl rfl 3 (by decide) (hts _ kw_276) (fun _ h9 => h9) rfl d_M_come_53 ?_
          refine lv_aload_n hx hb d_M_come_56 rfl (lv_at hl 0 rfl) ?_
          refine va_get (D := (dC, dI)) (ci := 1) (v := .int (nI n)) (C := "ClearingBooksModel") (T := T_M) (N := 13) hx hb hts wi_M hown hK hP 0 rfl rfl 1 (by decide) (hts _ kw_274) (fun _ h9 => h9) rfl d_M_come_57 ?_
          refine lv_iload_n hx hb d_M_come_60 rfl (lv_at hl 2 rfl) ?_
          refine xa_iastore (f := ra) (x := nI r) hx hb hK hP hD hS 2 0 rfl rfl (j := n) (by omega) (by decide) d_M_come_61 (fun H locs hP hD hS => ?_)
          have hP : va_P (dC, dI) vwCl (md_w ad cI cJ 0 n tc (upd ki n k) (upd ra n (nI r)) po se bc bs op pr pe pm) H := hP
          have hD : va_D A (md_w ad cI cJ 0 n tc (upd ki n k) (upd ra n (nI r)) po se bc bs op pr pe pm) := hD
          refine lv_aload_n hx hb d_M_come_62 rfl (lv_at hl 0 rfl) ?_
          refine lv_dup hx hb d_M_come_63 rfl ?_
          refine va_get (D := (dC, dI)) (ci := 1) (v := .int (nI n)) (C := "ClearingBooksModel") (T := T_M) (N := 13) hx hb hts wi_M hown hK hP 0 rfl rfl 1 (by decide) (hts _ kw_274) (fun _ h9 => h9) rfl d_M_come_64 ?_
          refine lv_iconst (v := nI 1) hx hb d_M_come_67 (by decide) ?_
          refine t_iadd hx hb d_M_come_68 (v := nI (n + 1)) (nI_add n 1) ?_
          refine va_put (D := (dC, dI)) (ci := 1) (v := .int (nI (n + 1))) (ty := .int) (C := "ClearingBooksModel") (T := T_M) (N := 13) hx hb hts wi_M ty_M tyok_M nm_M hown hK hP hD hS 0 rfl rfl 1 (by decide) (hts _ kw_274) (fun _ h9 => h9) rfl (by decide +kernel) rfl rfl (Nat.le_of_ble_eq_true rfl) d_M_come_69 (fun H locs hP hD hS => ?_)
          have hP : va_P (dC, dI) vwCl (md_w ad cI cJ 0 (n + 1) tc (upd ki n k) (upd ra n (nI r)) po se bc bs op pr pe pm) H := hP
          have hD : va_D A (md_w ad cI cJ 0 (n + 1) tc (upd ki n k) (upd ra n (nI r)) po se bc bs op pr pe pm) := hD
          refine lv_aload_n hx hb d_M_come_72 rfl (lv_at hl 0 rfl) ?_
          refine va_get (D := (dC, dI)) (ci := 1) (v := .int (nI (n + 1))) (C := "ClearingBooksModel") (T := T_M) (N := 13) hx hb hts wi_M hown hK hP 0 rfl rfl 1 (by decide) (hts _ kw_274) (fun _ h9 => h9) rfl d_M_come_73 ?_
          refine lv_iconst (v := nI 1) hx hb d_M_come_76 (by decide) ?_
          refine lv_isub hx hb d_M_come_77 ?_
          exact W.iret (v := (nI (n + 1)) - (nI 1)) hx hb hr (fun t ht hW => ⟨⟨(nI (n + 1)) - (nI 1), (), rfl, nI_pred n, by rw [ht]; exact hP, va_K.moved hW.alike hK, hD⟩, hS.F ht⟩) hS.2.2 d_M_come_78
        · exact absurd (by decide) c4
      · replace c3 := (nI_eq (by omega) (by omega)).mp c3
        exfalso; omega
    · replace c2 := mt (nI_leI (by omega) (by omega)).mpr c2
      exact absurd hr0 c2
set_option maxHeartbeats 4000000 in
set_option maxRecDepth 100000 in
theorem m_come_ta (l : Launch) (dC : Nat → ClassId) (dI : Nat → Nat → Nat) (ad : Nat → Nat) (cI cJ : ClassId) (cd n tc : Nat) (ki ra : Nat → Int32) (po se : Nat → Int64) (bc : Nat → Int32) (bs op : Nat → Int64) (pr pe : Nat → Int32) (pm : Nat → Int64) (sz : Nat) (k x : Int32) (hno : ¬ (¬ x < 0 ∧ x ≤ nI 1000)) : Met l y_M_come (.code y_M_come b_M_come 3 (some .int) :: wAll) ({ frames := 0, cells := 0, slots := 0, locals := 0 } : Room) (mu_P [.ref (ad 0), .int k, .int x] (dC, dI) vwCl [(cI, .int), (cJ, .long)] (md_w ad cI cJ cd n tc ki ra po se bc bs op pr pe pm) sz) (va_Qi (fun (z : Int32) (_ : Unit) => z = nI 0) (mu_B (dC, dI) vwCl [(cI, .int), (cJ, .long)] (va_A (md_w ad cI cJ cd n tc ki ra po se bc bs op pr pe pm) sz) (md_w ad cI cJ 1 n tc ki ra po se bc bs op pr pe pm)) (va_A (md_w ad cI cJ cd n tc ki ra po se bc bs op pr pe pm) sz)) 0 0 (va_A (md_w ad cI cJ cd n tc ki ra po se bc bs op pr pe pm) sz) := by
  refine Met.ofW (cc := b_M_come) (maxL := 3) (ret := (some .int)) (by decide) rfl ?_
  intro p e s m args below meth c s₁ B hml hv
  obtain ⟨rfl, hsz, hP, hK, hD0⟩ := hv
  have hx := B.exec
  have hb := B.bytes
  have hr := B.returns
  have hts0 := atoms_spec (ws := (.code y_M_come b_M_come 3 (some .int) :: wAll)) B.pre
  have hts := hts_all hts0
  have hown : s.vm.findClass "ClearingBooksModel" = some m.cls := findClass_of_methodNamed B.named
  have hlocks := B.notSynchronized
  subst hsz
  have hD := hD0.self (sz := s.heap.size)
  generalize hAe : va_A (md_w ad cI cJ cd n tc ki ra po se bc bs op pr pe pm) s.heap.size = A at hD ⊢
  have hA : ∀ q : Nat, s.heap.size ≤ q → A q := fun q h => by rw [← hAe]; exact Or.inr h
  have hS : va_S A s.heap s.heap [] := va_S.rf
  have hl := lv_entry ([.ref (ad 0), .int k, .int x]) (n := 3) (Nat.le_of_ble_eq_true rfl)
  rw [lg_entry_eq]
  generalize (lg_sl ([.ref (ad 0), .int k, .int x]) ++ List.replicate (3 - (lg_sl ([.ref (ad 0), .int k, .int x])).length) Slot.unset).toArray = ls at hl ⊢
  have hl : lv_has ls 3 [(0, .ref (ad 0)), (1, .int k), (2, .int x)] := hl
  refine lv_aload_n hx hb d_M_come_0 rfl (lv_at hl 0 rfl) ?_
  refine lv_iload_n hx hb d_M_come_1 rfl (lv_at hl 2 rfl) ?_
  refine lv_if_lt (tgt := 12) hx hb d_M_come_2 (by decide) (fun c1 => ?_) (fun c1 => ?_)
  · refine lv_iconst (v := nI 1) hx hb d_M_come_12 (by decide) ?_
    refine lv_goto (tgt := 30) hx hb d_M_come_13 (by decide) ?_
    refine va_put (D := (dC, dI)) (ci := 1) (v := .int (nI 1)) (ty := .int) (C := "ClearingBooksModel") (T := T_M) (N := 13) hx hb hts wi_M ty_M tyok_M nm_M hown hK hP hD hS 0 rfl rfl 0 (by decide) (hts _ kw_273) (fun _ h9 => h9) rfl (by decide +kernel) rfl rfl (Nat.le_of_ble_eq_true rfl) d_M_come_30 (fun H locs hP hD hS => ?_)
    have hP : va_P (dC, dI) vwCl (md_w ad cI cJ 1 n tc ki ra po se bc bs op pr pe pm) H := hP
    have hD : va_D A (md_w ad cI cJ 1 n tc ki ra po se bc bs op pr pe pm) := hD
    refine lv_aload_n hx hb d_M_come_33 rfl (lv_at hl 0 rfl) ?_
    refine va_get (D := (dC, dI)) (ci := 1) (v := .int (nI 1)) (C := "ClearingBooksModel") (T := T_M) (N := 13) hx hb hts wi_M hown hK hP 0 rfl rfl 0 (by decide) (hts _ kw_273) (fun _ h9 => h9) rfl d_M_come_34 ?_
    refine lv_if_le (tgt := 42) hx hb d_M_come_37 (by decide) (fun c2 => ?_) (fun c2 => ?_)
    · exact absurd c2 (by decide)
    · refine lv_iconst (v := nI 0) hx hb d_M_come_40 (by decide) ?_
      exact W.iret (v := nI 0) hx hb hr (fun t ht hW => ⟨⟨nI 0, (), rfl, rfl, by rw [ht]; exact hP, va_K.moved hW.alike hK, hD⟩, hS.F ht⟩) hS.2.2 d_M_come_41
  · refine lv_iload_n hx hb d_M_come_5 rfl (lv_at hl 2 rfl) ?_
    refine lv_sipush (v := nI 1000) hx hb d_M_come_6 (by decide) ?_
    refine lv_icmp_le (tgt := 16) hx hb d_M_come_9 (by decide) (fun c3 => ?_) (fun c3 => ?_)
    · exact absurd ⟨c1, c3⟩ hno
    · refine lv_iconst (v := nI 1) hx hb d_M_come_12 (by decide) ?_
      refine lv_goto (tgt := 30) hx hb d_M_come_13 (by decide) ?_
      refine va_put (D := (dC, dI)) (ci := 1) (v := .int (nI 1)) (ty := .int) (C := "ClearingBooksModel") (T := T_M) (N := 13) hx hb hts wi_M ty_M tyok_M nm_M hown hK hP hD hS 0 rfl rfl 0 (by decide) (hts _ kw_273) (fun _ h9 => h9) rfl (by decide +kernel) rfl rfl (Nat.le_of_ble_eq_true rfl) d_M_come_30 (fun H locs hP hD hS => ?_)
      have hP : va_P (dC, dI) vwCl (md_w ad cI cJ 1 n tc ki ra po se bc bs op pr pe pm) H := hP
      have hD : va_D A (md_w ad cI cJ 1 n tc ki ra po se bc bs op pr pe pm) := hD
      refine lv_aload_n hx hb d_M_come_33 rfl (lv_at hl 0 rfl) ?_
      refine va_get (D := (dC, dI)) (ci := 1) (v := .int (nI 1)) (C := "ClearingBooksModel") (T := T_M) (N := 13) hx hb hts wi_M hown hK hP 0 rfl rfl 0 (by decide) (hts _ kw_273) (fun _ h9 => h9) rfl d_M_come_34 ?_
      refine lv_if_le (tgt := 42) hx hb d_M_come_37 (by decide) (fun c4 => ?_) (fun c4 => ?_)
      · exact absurd c4 (by decide)
      · refine lv_iconst (v := nI 0) hx hb d_M_come_40 (by decide) ?_
        exact W.iret (v := nI 0) hx hb hr (fun t ht hW => ⟨⟨nI 0, (), rfl, rfl, by rw [ht]; exact hP, va_K.moved hW.alike hK, hD⟩, hS.F ht⟩) hS.2.2 d_M_come_41
set_option maxHeartbeats 4000000 in
set_option maxRecDepth 100000 in
theorem m_come_ts (l : Launch) (dC : Nat → ClassId) (dI : Nat → Nat → Nat) (ad : Nat → Nat) (cI cJ : ClassId) (cd n tc : Nat) (ki ra : Nat → Int32) (po se : Nat → Int64) (bc : Nat → Int32) (bs op : Nat → Int64) (pr pe : Nat → Int32) (pm : Nat → Int64) (sz : Nat) (k : Int32) (r : Nat) (hr0 : r ≤ 1000) (hn : n = 15) : Met l y_M_come (.code y_M_come b_M_come 3 (some .int) :: wAll) ({ frames := 0, cells := 0, slots := 0, locals := 0 } : Room) (mu_P [.ref (ad 0), .int k, .int (nI r)] (dC, dI) vwCl [(cI, .int), (cJ, .long)] (md_w ad cI cJ cd n tc ki ra po se bc bs op pr pe pm) sz) (va_Qi (fun (z : Int32) (_ : Unit) => z = nI 0) (mu_B (dC, dI) vwCl [(cI, .int), (cJ, .long)] (va_A (md_w ad cI cJ cd n tc ki ra po se bc bs op pr pe pm) sz) (md_w ad cI cJ 2 n tc ki ra po se bc bs op pr pe pm)) (va_A (md_w ad cI cJ cd n tc ki ra po se bc bs op pr pe pm) sz)) 0 0 (va_A (md_w ad cI cJ cd n tc ki ra po se bc bs op pr pe pm) sz) := by
  refine Met.ofW (cc := b_M_come) (maxL := 3) (ret := (some .int)) (by decide) rfl ?_
  intro p e s m args below meth c s₁ B hml hv
  obtain ⟨rfl, hsz, hP, hK, hD0⟩ := hv
  have hx := B.exec
  have hb := B.bytes
  have hr := B.returns
  have hts0 := atoms_spec (ws := (.code y_M_come b_M_come 3 (some .int) :: wAll)) B.pre
  have hts := hts_all hts0
  have hown : s.vm.findClass "ClearingBooksModel" = some m.cls := findClass_of_methodNamed B.named
  have hlocks := B.notSynchronized
  subst hsz
  have hD := hD0.self (sz := s.heap.size)
  generalize hAe : va_A (md_w ad cI cJ cd n tc ki ra po se bc bs op pr pe pm) s.heap.size = A at hD ⊢
  have hA : ∀ q : Nat, s.heap.size ≤ q → A q := fun q h => by rw [← hAe]; exact Or.inr h
  have hS : va_S A s.heap s.heap [] := va_S.rf
  have hl := lv_entry ([.ref (ad 0), .int k, .int (nI r)]) (n := 3) (Nat.le_of_ble_eq_true rfl)
  rw [lg_entry_eq]
  generalize (lg_sl ([.ref (ad 0), .int k, .int (nI r)]) ++ List.replicate (3 - (lg_sl ([.ref (ad 0), .int k, .int (nI r)])).length) Slot.unset).toArray = ls at hl ⊢
  have hl : lv_has ls 3 [(0, .ref (ad 0)), (1, .int k), (2, .int (nI r))] := hl
  refine lv_aload_n hx hb d_M_come_0 rfl (lv_at hl 0 rfl) ?_
  refine lv_iload_n hx hb d_M_come_1 rfl (lv_at hl 2 rfl) ?_
  refine lv_if_lt (tgt := 12) hx hb d_M_come_2 (by decide) (fun c1 => ?_) (fun c1 => ?_)
  · exact absurd c1 (nI_pos (by omega))
  · refine lv_iload_n hx hb d_M_come_5 rfl (lv_at hl 2 rfl) ?_
    refine lv_sipush (v := nI 1000) hx hb d_M_come_6 (by decide) ?_
    refine lv_icmp_le (tgt := 16) hx hb d_M_come_9 (by decide) (fun c2 => ?_) (fun c2 => ?_)
    · replace c2 := (nI_leI (by omega) (by omega)).mp c2
      refine lv_aload_n hx hb d_M_come_16 rfl (lv_at hl 0 rfl) ?_
      refine va_get (D := (dC, dI)) (ci := 1) (v := .int (nI n)) (C := "ClearingBooksModel") (T := T_M) (N := 13) hx hb hts wi_M hown hK hP 0 rfl rfl 1 (by decide) (hts _ kw_274) (fun _ h9 => h9) rfl d_M_come_17 ?_
      refine lv_bipush (v := nI 15) hx hb d_M_come_20 (by decide) ?_
      refine lv_icmp_ne (tgt := 29) hx hb d_M_come_22 (by decide) (fun c3 => ?_) (fun c3 => ?_)
      · replace c3 := mt (nI_eq (by omega) (by omega)).mpr c3
        exfalso; omega
      · replace c3 := (nI_eq (by omega) (by omega)).mp c3
        refine lv_iconst (v := nI 2) hx hb d_M_come_25 (by decide) ?_
        refine lv_goto (tgt := 30) hx hb d_M_come_26 (by decide) ?_
        refine va_put (D := (dC, dI)) (ci := 1) (v := .int (nI 2)) (ty := .int) (C := "ClearingBooksModel") (T := T_M) (N := 13) hx hb hts wi_M ty_M tyok_M nm_M hown hK hP hD hS 0 rfl rfl 0 (by decide) (hts _ kw_273) (fun _ h9 => h9) rfl (by decide +kernel) rfl rfl (Nat.le_of_ble_eq_true rfl) d_M_come_30 (fun H locs hP hD hS => ?_)
        have hP : va_P (dC, dI) vwCl (md_w ad cI cJ 2 n tc ki ra po se bc bs op pr pe pm) H := hP
        have hD : va_D A (md_w ad cI cJ 2 n tc ki ra po se bc bs op pr pe pm) := hD
        refine lv_aload_n hx hb d_M_come_33 rfl (lv_at hl 0 rfl) ?_
        refine va_get (D := (dC, dI)) (ci := 1) (v := .int (nI 2)) (C := "ClearingBooksModel") (T := T_M) (N := 13) hx hb hts wi_M hown hK hP 0 rfl rfl 0 (by decide) (hts _ kw_273) (fun _ h9 => h9) rfl d_M_come_34 ?_
        refine lv_if_le (tgt := 42) hx hb d_M_come_37 (by decide) (fun c4 => ?_) (fun c4 => ?_)
        · exact absurd c4 (by decide)
        · refine lv_iconst (v := nI 0) hx hb d_M_come_40 (by decide) ?_
          exact W.iret (v := nI 0) hx hb hr (fun t ht hW => ⟨⟨nI 0, (), rfl, rfl, by rw [ht]; exact hP, va_K.moved hW.alike hK, hD⟩, hS.F ht⟩) hS.2.2 d_M_come_41
    · replace c2 := mt (nI_leI (by omega) (by omega)).mpr c2
      exact absurd hr0 c2
set_option maxHeartbeats 4000000 in
set_option maxRecDepth 100000 in
theorem m_acquirer_y (l : Launch) (dC : Nat → ClassId) (dI : Nat → Nat → Nat) (ad : Nat → Nat) (cI cJ : ClassId) (cd n tc : Nat) (ki ra : Nat → Int32) (po se : Nat → Int64) (bc : Nat → Int32) (bs op : Nat → Int64) (pr pe : Nat → Int32) (pm : Nat → Int64) (sz : Nat) (r : Nat) (hr0 : r ≤ 1000) (hn : n < 15) : Met l y_M_acquirer (.code y_M_acquirer b_M_acquirer 2 (some .int) :: wAll) ({ frames := 1, cells := 0, slots := 0, locals := 22 } : Room) (mu_P [.ref (ad 0), .int (nI r)] (dC, dI) vwCl [(cI, .int), (cJ, .long)] (md_w ad cI cJ cd n tc ki ra po se bc bs op pr pe pm) sz) (va_Qi (fun (z : Int32) (_ : Unit) => z = nI n) (mu_B (dC, dI) vwCl [(cI, .int), (cJ, .long)] (va_A (md_w ad cI cJ cd n tc ki ra po se bc bs op pr pe pm) sz) (md_w ad cI cJ 0 (n + 1) tc (upd ki n (nI 1)) (upd ra n (nI r)) po se bc bs op pr pe pm)) (va_A (md_w ad cI cJ cd n tc ki ra po se bc bs op pr pe pm) sz)) 0 0 (va_A (md_w ad cI cJ cd n tc ki ra po se bc bs op pr pe pm) sz) := by
  refine Met.ofW (cc := b_M_acquirer) (maxL := 2) (ret := (some .int)) (by decide) rfl ?_
  intro p e s m args below meth c s₁ B hml hv
  obtain ⟨rfl, hsz, hP, hK, hD0⟩ := hv
  have hx := B.exec
  have hb := B.bytes
  have hr := B.returns
  have hts0 := atoms_spec (ws := (.code y_M_acquirer b_M_acquirer 2 (some .int) :: wAll)) B.pre
  have hts := hts_all hts0
  have hown : s.vm.findClass "ClearingBooksModel" = some m.cls := findClass_of_methodNamed B.named
  have hlocks := B.notSynchronized
  subst hsz
  have hD := hD0.self (sz := s.heap.size)
  generalize hAe : va_A (md_w ad cI cJ cd n tc ki ra po se bc bs op pr pe pm) s.heap.size = A at hD ⊢
  have hA : ∀ q : Nat, s.heap.size ≤ q → A q := fun q h => by rw [← hAe]; exact Or.inr h
  have hS : va_S A s.heap s.heap [] := va_S.rf
  have hl := lv_entry ([.ref (ad 0), .int (nI r)]) (n := 2) (Nat.le_of_ble_eq_true rfl)
  rw [lg_entry_eq]
  generalize (lg_sl ([.ref (ad 0), .int (nI r)]) ++ List.replicate (2 - (lg_sl ([.ref (ad 0), .int (nI r)])).length) Slot.unset).toArray = ls at hl ⊢
  have hl : lv_has ls 2 [(0, .ref (ad 0)), (1, .int (nI r))] := hl
  refine lv_aload_n hx hb d_M_acquirer_0 rfl (lv_at hl 0 rfl) ?_
  refine lv_iconst (v := nI 1) hx hb d_M_acquirer_1 (by decide) ?_
  refine lv_iload_n hx hb d_M_acquirer_2 rfl (lv_at hl 1 rfl) ?_
  refine mu_calli (va_runV (As := [.int (nI 1), .int (nI r)]) (rest := []) ⟨hx, hb, hml, hown, hts⟩ (m_come_y l dC dI ad cI cJ cd n tc ki ra po se bc bs op pr pe pm _ (nI 1) r hr0 hn) (cwV 2 hts (wAll_v kw_321 kw_323 ks_10 kw_2 kw_324) rfl rfl rfl (by decide +kernel) ⟨Nat.le_of_ble_eq_true rfl, Nat.le_of_ble_eq_true rfl⟩) (mu_preV hK hP hD (ci := 1) (q0 := 0) rfl rfl) rfl rfl hl.1 rfl (lv_room (Nat.le_of_ble_eq_true rfl)) d_M_acquirer_3 ⟨Nat.le_of_ble_eq_true rfl, Nat.le_of_ble_eq_true rfl⟩) hD hS hA (fun r H locs hq hP hD hS => ?_)
  obtain rfl := hq
  have hP : va_P (dC, dI) vwCl (md_w ad cI cJ 0 (n + 1) tc (upd ki n (nI 1)) (upd ra n (nI r)) po se bc bs op pr pe pm) H := hP
  have hD : va_D A (md_w ad cI cJ 0 (n + 1) tc (upd ki n (nI 1)) (upd ra n (nI r)) po se bc bs op pr pe pm) := hD
  exact W.iret (v := nI n) hx hb hr (fun t ht hW => ⟨⟨nI n, (), rfl, rfl, by rw [ht]; exact hP, va_K.moved hW.alike hK, hD⟩, hS.F ht⟩) hS.2.2 d_M_acquirer_6
set_option maxHeartbeats 4000000 in
set_option maxRecDepth 100000 in
theorem m_acquirer_ta (l : Launch) (dC : Nat → ClassId) (dI : Nat → Nat → Nat) (ad : Nat → Nat) (cI cJ : ClassId) (cd n tc : Nat) (ki ra : Nat → Int32) (po se : Nat → Int64) (bc : Nat → Int32) (bs op : Nat → Int64) (pr pe : Nat → Int32) (pm : Nat → Int64) (sz : Nat) (x : Int32) (hno : ¬ (¬ x < 0 ∧ x ≤ nI 1000)) : Met l y_M_acquirer (.code y_M_acquirer b_M_acquirer 2 (some .int) :: wAll) ({ frames := 1, cells := 0, slots := 0, locals := 22 } : Room) (mu_P [.ref (ad 0), .int x] (dC, dI) vwCl [(cI, .int), (cJ, .long)] (md_w ad cI cJ cd n tc ki ra po se bc bs op pr pe pm) sz) (va_Qi (fun (z : Int32) (_ : Unit) => z = nI 0) (mu_B (dC, dI) vwCl [(cI, .int), (cJ, .long)] (va_A (md_w ad cI cJ cd n tc ki ra po se bc bs op pr pe pm) sz) (md_w ad cI cJ 1 n tc ki ra po se bc bs op pr pe pm)) (va_A (md_w ad cI cJ cd n tc ki ra po se bc bs op pr pe pm) sz)) 0 0 (va_A (md_w ad cI cJ cd n tc ki ra po se bc bs op pr pe pm) sz) := by
  refine Met.ofW (cc := b_M_acquirer) (maxL := 2) (ret := (some .int)) (by decide) rfl ?_
  intro p e s m args below meth c s₁ B hml hv
  obtain ⟨rfl, hsz, hP, hK, hD0⟩ := hv
  have hx := B.exec
  have hb := B.bytes
  have hr := B.returns
  have hts0 := atoms_spec (ws := (.code y_M_acquirer b_M_acquirer 2 (some .int) :: wAll)) B.pre
  have hts := hts_all hts0
  have hown : s.vm.findClass "ClearingBooksModel" = some m.cls := findClass_of_methodNamed B.named
  have hlocks := B.notSynchronized
  subst hsz
  have hD := hD0.self (sz := s.heap.size)
  generalize hAe : va_A (md_w ad cI cJ cd n tc ki ra po se bc bs op pr pe pm) s.heap.size = A at hD ⊢
  have hA : ∀ q : Nat, s.heap.size ≤ q → A q := fun q h => by rw [← hAe]; exact Or.inr h
  have hS : va_S A s.heap s.heap [] := va_S.rf
  have hl := lv_entry ([.ref (ad 0), .int x]) (n := 2) (Nat.le_of_ble_eq_true rfl)
  rw [lg_entry_eq]
  generalize (lg_sl ([.ref (ad 0), .int x]) ++ List.replicate (2 - (lg_sl ([.ref (ad 0), .int x])).length) Slot.unset).toArray = ls at hl ⊢
  have hl : lv_has ls 2 [(0, .ref (ad 0)), (1, .int x)] := hl
  refine lv_aload_n hx hb d_M_acquirer_0 rfl (lv_at hl 0 rfl) ?_
  refine lv_iconst (v := nI 1) hx hb d_M_acquirer_1 (by decide) ?_
  refine lv_iload_n hx hb d_M_acquirer_2 rfl (lv_at hl 1 rfl) ?_
  refine mu_calli (va_runV (As := [.int (nI 1), .int x]) (rest := []) ⟨hx, hb, hml, hown, hts⟩ (m_come_ta l dC dI ad cI cJ cd n tc ki ra po se bc bs op pr pe pm _ (nI 1) x hno) (cwV 2 hts (wAll_v kw_321 kw_323 ks_10 kw_2 kw_324) rfl rfl rfl (by decide +kernel) ⟨Nat.le_of_ble_eq_true rfl, Nat.le_of_ble_eq_true rfl⟩) (mu_preV hK hP hD (ci := 1) (q0 := 0) rfl rfl) rfl rfl hl.1 rfl (lv_room (Nat.le_of_ble_eq_true rfl)) d_M_acquirer_3 ⟨Nat.le_of_ble_eq_true rfl, Nat.le_of_ble_eq_true rfl⟩) hD hS hA (fun r H locs hq hP hD hS => ?_)
  obtain rfl := hq
  have hP : va_P (dC, dI) vwCl (md_w ad cI cJ 1 n tc ki ra po se bc bs op pr pe pm) H := hP
  have hD : va_D A (md_w ad cI cJ 1 n tc ki ra po se bc bs op pr pe pm) := hD
  exact W.iret (v := nI 0) hx hb hr (fun t ht hW => ⟨⟨nI 0, (), rfl, rfl, by rw [ht]; exact hP, va_K.moved hW.alike hK, hD⟩, hS.F ht⟩) hS.2.2 d_M_acquirer_6
set_option maxHeartbeats 4000000 in
set_option maxRecDepth 100000 in
theorem m_acquirer_ts (l : Launch) (dC : Nat → ClassId) (dI : Nat → Nat → Nat) (ad : Nat → Nat) (cI cJ : ClassId) (cd n tc : Nat) (ki ra : Nat → Int32) (po se : Nat → Int64) (bc : Nat → Int32) (bs op : Nat → Int64) (pr pe : Nat → Int32) (pm : Nat → Int64) (sz : Nat) (r : Nat) (hr0 : r ≤ 1000) (hn : n = 15) : Met l y_M_acquirer (.code y_M_acquirer b_M_acquirer 2 (some .int) :: wAll) ({ frames := 1, cells := 0, slots := 0, locals := 22 } : Room) (mu_P [.ref (ad 0), .int (nI r)] (dC, dI) vwCl [(cI, .int), (cJ, .long)] (md_w ad cI cJ cd n tc ki ra po se bc bs op pr pe pm) sz) (va_Qi (fun (z : Int32) (_ : Unit) => z = nI 0) (mu_B (dC, dI) vwCl [(cI, .int), (cJ, .long)] (va_A (md_w ad cI cJ cd n tc ki ra po se bc bs op pr pe pm) sz) (md_w ad cI cJ 2 n tc ki ra po se bc bs op pr pe pm)) (va_A (md_w ad cI cJ cd n tc ki ra po se bc bs op pr pe pm) sz)) 0 0 (va_A (md_w ad cI cJ cd n tc ki ra po se bc bs op pr pe pm) sz) := by
  refine Met.ofW (cc := b_M_acquirer) (maxL := 2) (ret := (some .int)) (by decide) rfl ?_
  intro p e s m args below meth c s₁ B hml hv
  obtain ⟨rfl, hsz, hP, hK, hD0⟩ := hv
  have hx := B.exec
  have hb := B.bytes
  have hr := B.returns
  have hts0 := atoms_spec (ws := (.code y_M_acquirer b_M_acquirer 2 (some .int) :: wAll)) B.pre
  have hts := hts_all hts0
  have hown : s.vm.findClass "ClearingBooksModel" = some m.cls := findClass_of_methodNamed B.named
  have hlocks := B.notSynchronized
  subst hsz
  have hD := hD0.self (sz := s.heap.size)
  generalize hAe : va_A (md_w ad cI cJ cd n tc ki ra po se bc bs op pr pe pm) s.heap.size = A at hD ⊢
  have hA : ∀ q : Nat, s.heap.size ≤ q → A q := fun q h => by rw [← hAe]; exact Or.inr h
  have hS : va_S A s.heap s.heap [] := va_S.rf
  have hl := lv_entry ([.ref (ad 0), .int (nI r)]) (n := 2) (Nat.le_of_ble_eq_true rfl)
  rw [lg_entry_eq]
  generalize (lg_sl ([.ref (ad 0), .int (nI r)]) ++ List.replicate (2 - (lg_sl ([.ref (ad 0), .int (nI r)])).length) Slot.unset).toArray = ls at hl ⊢
  have hl : lv_has ls 2 [(0, .ref (ad 0)), (1, .int (nI r))] := hl
  refine lv_aload_n hx hb d_M_acquirer_0 rfl (lv_at hl 0 rfl) ?_
  refine lv_iconst (v := nI 1) hx hb d_M_acquirer_1 (by decide) ?_
  refine lv_iload_n hx hb d_M_acquirer_2 rfl (lv_at hl 1 rfl) ?_
  refine mu_calli (va_runV (As := [.int (nI 1), .int (nI r)]) (rest := []) ⟨hx, hb, hml, hown, hts⟩ (m_come_ts l dC dI ad cI cJ cd n tc ki ra po se bc bs op pr pe pm _ (nI 1) r hr0 hn) (cwV 2 hts (wAll_v kw_321 kw_323 ks_10 kw_2 kw_324) rfl rfl rfl (by decide +kernel) ⟨Nat.le_of_ble_eq_true rfl, Nat.le_of_ble_eq_true rfl⟩) (mu_preV hK hP hD (ci := 1) (q0 := 0) rfl rfl) rfl rfl hl.1 rfl (lv_room (Nat.le_of_ble_eq_true rfl)) d_M_acquirer_3 ⟨Nat.le_of_ble_eq_true rfl, Nat.le_of_ble_eq_true rfl⟩) hD hS hA (fun r H locs hq hP hD hS => ?_)
  obtain rfl := hq
  have hP : va_P (dC, dI) vwCl (md_w ad cI cJ 2 n tc ki ra po se bc bs op pr pe pm) H := hP
  have hD : va_D A (md_w ad cI cJ 2 n tc ki ra po se bc bs op pr pe pm) := hD
  exact W.iret (v := nI 0) hx hb hr (fun t ht hW => ⟨⟨nI 0, (), rfl, rfl, by rw [ht]; exact hP, va_K.moved hW.alike hK, hD⟩, hS.F ht⟩) hS.2.2 d_M_acquirer_6
set_option maxHeartbeats 4000000 in
set_option maxRecDepth 100000 in
theorem m_issuer_y (l : Launch) (dC : Nat → ClassId) (dI : Nat → Nat → Nat) (ad : Nat → Nat) (cI cJ : ClassId) (cd n tc : Nat) (ki ra : Nat → Int32) (po se : Nat → Int64) (bc : Nat → Int32) (bs op : Nat → Int64) (pr pe : Nat → Int32) (pm : Nat → Int64) (sz : Nat) (r : Nat) (hr0 : r ≤ 1000) (hn : n < 15) : Met l y_M_issuer (.code y_M_issuer b_M_issuer 2 (some .int) :: wAll) ({ frames := 1, cells := 0, slots := 0, locals := 22 } : Room) (mu_P [.ref (ad 0), .int (nI r)] (dC, dI) vwCl [(cI, .int), (cJ, .long)] (md_w ad cI cJ cd n tc ki ra po se bc bs op pr pe pm) sz) (va_Qi (fun (z : Int32) (_ : Unit) => z = nI n) (mu_B (dC, dI) vwCl [(cI, .int), (cJ, .long)] (va_A (md_w ad cI cJ cd n tc ki ra po se bc bs op pr pe pm) sz) (md_w ad cI cJ 0 (n + 1) tc (upd ki n (nI 2)) (upd ra n (nI r)) po se bc bs op pr pe pm)) (va_A (md_w ad cI cJ cd n tc ki ra po se bc bs op pr pe pm) sz)) 0 0 (va_A (md_w ad cI cJ cd n tc ki ra po se bc bs op pr pe pm) sz) := by
  refine Met.ofW (cc := b_M_issuer) (maxL := 2) (ret := (some .int)) (by decide) rfl ?_
  intro p e s m args below meth c s₁ B hml hv
  obtain ⟨rfl, hsz, hP, hK, hD0⟩ := hv
  have hx := B.exec
  have hb := B.bytes
  have hr := B.returns
  have hts0 := atoms_spec (ws := (.code y_M_issuer b_M_issuer 2 (some .int) :: wAll)) B.pre
  have hts := hts_all hts0
  have hown : s.vm.findClass "ClearingBooksModel" = some m.cls := findClass_of_methodNamed B.named
  have hlocks := B.notSynchronized
  subst hsz
  have hD := hD0.self (sz := s.heap.size)
  generalize hAe : va_A (md_w ad cI cJ cd n tc ki ra po se bc bs op pr pe pm) s.heap.size = A at hD ⊢
  have hA : ∀ q : Nat, s.heap.size ≤ q → A q := fun q h => by rw [← hAe]; exact Or.inr h
  have hS : va_S A s.heap s.heap [] := va_S.rf
  have hl := lv_entry ([.ref (ad 0), .int (nI r)]) (n := 2) (Nat.le_of_ble_eq_true rfl)
  rw [lg_entry_eq]
  generalize (lg_sl ([.ref (ad 0), .int (nI r)]) ++ List.replicate (2 - (lg_sl ([.ref (ad 0), .int (nI r)])).length) Slot.unset).toArray = ls at hl ⊢
  have hl : lv_has ls 2 [(0, .ref (ad 0)), (1, .int (nI r))] := hl
  refine lv_aload_n hx hb d_M_issuer_0 rfl (lv_at hl 0 rfl) ?_
  refine lv_iconst (v := nI 2) hx hb d_M_issuer_1 (by decide) ?_
  refine lv_iload_n hx hb d_M_issuer_2 rfl (lv_at hl 1 rfl) ?_
  refine mu_calli (va_runV (As := [.int (nI 2), .int (nI r)]) (rest := []) ⟨hx, hb, hml, hown, hts⟩ (m_come_y l dC dI ad cI cJ cd n tc ki ra po se bc bs op pr pe pm _ (nI 2) r hr0 hn) (cwV 2 hts (wAll_v kw_321 kw_323 ks_10 kw_2 kw_324) rfl rfl rfl (by decide +kernel) ⟨Nat.le_of_ble_eq_true rfl, Nat.le_of_ble_eq_true rfl⟩) (mu_preV hK hP hD (ci := 1) (q0 := 0) rfl rfl) rfl rfl hl.1 rfl (lv_room (Nat.le_of_ble_eq_true rfl)) d_M_issuer_3 ⟨Nat.le_of_ble_eq_true rfl, Nat.le_of_ble_eq_true rfl⟩) hD hS hA (fun r H locs hq hP hD hS => ?_)
  obtain rfl := hq
  have hP : va_P (dC, dI) vwCl (md_w ad cI cJ 0 (n + 1) tc (upd ki n (nI 2)) (upd ra n (nI r)) po se bc bs op pr pe pm) H := hP
  have hD : va_D A (md_w ad cI cJ 0 (n + 1) tc (upd ki n (nI 2)) (upd ra n (nI r)) po se bc bs op pr pe pm) := hD
  exact W.iret (v := nI n) hx hb hr (fun t ht hW => ⟨⟨nI n, (), rfl, rfl, by rw [ht]; exact hP, va_K.moved hW.alike hK, hD⟩, hS.F ht⟩) hS.2.2 d_M_issuer_6
set_option maxHeartbeats 4000000 in
set_option maxRecDepth 100000 in
theorem m_issuer_ta (l : Launch) (dC : Nat → ClassId) (dI : Nat → Nat → Nat) (ad : Nat → Nat) (cI cJ : ClassId) (cd n tc : Nat) (ki ra : Nat → Int32) (po se : Nat → Int64) (bc : Nat → Int32) (bs op : Nat → Int64) (pr pe : Nat → Int32) (pm : Nat → Int64) (sz : Nat) (x : Int32) (hno : ¬ (¬ x < 0 ∧ x ≤ nI 1000)) : Met l y_M_issuer (.code y_M_issuer b_M_issuer 2 (some .int) :: wAll) ({ frames := 1, cells := 0, slots := 0, locals := 22 } : Room) (mu_P [.ref (ad 0), .int x] (dC, dI) vwCl [(cI, .int), (cJ, .long)] (md_w ad cI cJ cd n tc ki ra po se bc bs op pr pe pm) sz) (va_Qi (fun (z : Int32) (_ : Unit) => z = nI 0) (mu_B (dC, dI) vwCl [(cI, .int), (cJ, .long)] (va_A (md_w ad cI cJ cd n tc ki ra po se bc bs op pr pe pm) sz) (md_w ad cI cJ 1 n tc ki ra po se bc bs op pr pe pm)) (va_A (md_w ad cI cJ cd n tc ki ra po se bc bs op pr pe pm) sz)) 0 0 (va_A (md_w ad cI cJ cd n tc ki ra po se bc bs op pr pe pm) sz) := by
  refine Met.ofW (cc := b_M_issuer) (maxL := 2) (ret := (some .int)) (by decide) rfl ?_
  intro p e s m args below meth c s₁ B hml hv
  obtain ⟨rfl, hsz, hP, hK, hD0⟩ := hv
  have hx := B.exec
  have hb := B.bytes
  have hr := B.returns
  have hts0 := atoms_spec (ws := (.code y_M_issuer b_M_issuer 2 (some .int) :: wAll)) B.pre
  have hts := hts_all hts0
  have hown : s.vm.findClass "ClearingBooksModel" = some m.cls := findClass_of_methodNamed B.named
  have hlocks := B.notSynchronized
  subst hsz
  have hD := hD0.self (sz := s.heap.size)
  generalize hAe : va_A (md_w ad cI cJ cd n tc ki ra po se bc bs op pr pe pm) s.heap.size = A at hD ⊢
  have hA : ∀ q : Nat, s.heap.size ≤ q → A q := fun q h => by rw [← hAe]; exact Or.inr h
  have hS : va_S A s.heap s.heap [] := va_S.rf
  have hl := lv_entry ([.ref (ad 0), .int x]) (n := 2) (Nat.le_of_ble_eq_true rfl)
  rw [lg_entry_eq]
  generalize (lg_sl ([.ref (ad 0), .int x]) ++ List.replicate (2 - (lg_sl ([.ref (ad 0), .int x])).length) Slot.unset).toArray = ls at hl ⊢
  have hl : lv_has ls 2 [(0, .ref (ad 0)), (1, .int x)] := hl
  refine lv_aload_n hx hb d_M_issuer_0 rfl (lv_at hl 0 rfl) ?_
  refine lv_iconst (v := nI 2) hx hb d_M_issuer_1 (by decide) ?_
  refine lv_iload_n hx hb d_M_issuer_2 rfl (lv_at hl 1 rfl) ?_
  refine mu_calli (va_runV (As := [.int (nI 2), .int x]) (rest := []) ⟨hx, hb, hml, hown, hts⟩ (m_come_ta l dC dI ad cI cJ cd n tc ki ra po se bc bs op pr pe pm _ (nI 2) x hno) (cwV 2 hts (wAll_v kw_321 kw_323 ks_10 kw_2 kw_324) rfl rfl rfl (by decide +kernel) ⟨Nat.le_of_ble_eq_true rfl, Nat.le_of_ble_eq_true rfl⟩) (mu_preV hK hP hD (ci := 1) (q0 := 0) rfl rfl) rfl rfl hl.1 rfl (lv_room (Nat.le_of_ble_eq_true rfl)) d_M_issuer_3 ⟨Nat.le_of_ble_eq_true rfl, Nat.le_of_ble_eq_true rfl⟩) hD hS hA (fun r H locs hq hP hD hS => ?_)
  obtain rfl := hq
  have hP : va_P (dC, dI) vwCl (md_w ad cI cJ 1 n tc ki ra po se bc bs op pr pe pm) H := hP
  have hD : va_D A (md_w ad cI cJ 1 n tc ki ra po se bc bs op pr pe pm) := hD
  exact W.iret (v := nI 0) hx hb hr (fun t ht hW => ⟨⟨nI 0, (), rfl, rfl, by rw [ht]; exact hP, va_K.moved hW.alike hK, hD⟩, hS.F ht⟩) hS.2.2 d_M_issuer_6
set_option maxHeartbeats 4000000 in
set_option maxRecDepth 100000 in
theorem m_issuer_ts (l : Launch) (dC : Nat → ClassId) (dI : Nat → Nat → Nat) (ad : Nat → Nat) (cI cJ : ClassId) (cd n tc : Nat) (ki ra : Nat → Int32) (po se : Nat → Int64) (bc : Nat → Int32) (bs op : Nat → Int64) (pr pe : Nat → Int32) (pm : Nat → Int64) (sz : Nat) (r : Nat) (hr0 : r ≤ 1000) (hn : n = 15) : Met l y_M_issuer (.code y_M_issuer b_M_issuer 2 (some .int) :: wAll) ({ frames := 1, cells := 0, slots := 0, locals := 22 } : Room) (mu_P [.ref (ad 0), .int (nI r)] (dC, dI) vwCl [(cI, .int), (cJ, .long)] (md_w ad cI cJ cd n tc ki ra po se bc bs op pr pe pm) sz) (va_Qi (fun (z : Int32) (_ : Unit) => z = nI 0) (mu_B (dC, dI) vwCl [(cI, .int), (cJ, .long)] (va_A (md_w ad cI cJ cd n tc ki ra po se bc bs op pr pe pm) sz) (md_w ad cI cJ 2 n tc ki ra po se bc bs op pr pe pm)) (va_A (md_w ad cI cJ cd n tc ki ra po se bc bs op pr pe pm) sz)) 0 0 (va_A (md_w ad cI cJ cd n tc ki ra po se bc bs op pr pe pm) sz) := by
  refine Met.ofW (cc := b_M_issuer) (maxL := 2) (ret := (some .int)) (by decide) rfl ?_
  intro p e s m args below meth c s₁ B hml hv
  obtain ⟨rfl, hsz, hP, hK, hD0⟩ := hv
  have hx := B.exec
  have hb := B.bytes
  have hr := B.returns
  have hts0 := atoms_spec (ws := (.code y_M_issuer b_M_issuer 2 (some .int) :: wAll)) B.pre
  have hts := hts_all hts0
  have hown : s.vm.findClass "ClearingBooksModel" = some m.cls := findClass_of_methodNamed B.named
  have hlocks := B.notSynchronized
  subst hsz
  have hD := hD0.self (sz := s.heap.size)
  generalize hAe : va_A (md_w ad cI cJ cd n tc ki ra po se bc bs op pr pe pm) s.heap.size = A at hD ⊢
  have hA : ∀ q : Nat, s.heap.size ≤ q → A q := fun q h => by rw [← hAe]; exact Or.inr h
  have hS : va_S A s.heap s.heap [] := va_S.rf
  have hl := lv_entry ([.ref (ad 0), .int (nI r)]) (n := 2) (Nat.le_of_ble_eq_true rfl)
  rw [lg_entry_eq]
  generalize (lg_sl ([.ref (ad 0), .int (nI r)]) ++ List.replicate (2 - (lg_sl ([.ref (ad 0), .int (nI r)])).length) Slot.unset).toArray = ls at hl ⊢
  have hl : lv_has ls 2 [(0, .ref (ad 0)), (1, .int (nI r))] := hl
  refine lv_aload_n hx hb d_M_issuer_0 rfl (lv_at hl 0 rfl) ?_
  refine lv_iconst (v := nI 2) hx hb d_M_issuer_1 (by decide) ?_
  refine lv_iload_n hx hb d_M_issuer_2 rfl (lv_at hl 1 rfl) ?_
  refine mu_calli (va_runV (As := [.int (nI 2), .int (nI r)]) (rest := []) ⟨hx, hb, hml, hown, hts⟩ (m_come_ts l dC dI ad cI cJ cd n tc ki ra po se bc bs op pr pe pm _ (nI 2) r hr0 hn) (cwV 2 hts (wAll_v kw_321 kw_323 ks_10 kw_2 kw_324) rfl rfl rfl (by decide +kernel) ⟨Nat.le_of_ble_eq_true rfl, Nat.le_of_ble_eq_true rfl⟩) (mu_preV hK hP hD (ci := 1) (q0 := 0) rfl rfl) rfl rfl hl.1 rfl (lv_room (Nat.le_of_ble_eq_true rfl)) d_M_issuer_3 ⟨Nat.le_of_ble_eq_true rfl, Nat.le_of_ble_eq_true rfl⟩) hD hS hA (fun r H locs hq hP hD hS => ?_)
  obtain rfl := hq
  have hP : va_P (dC, dI) vwCl (md_w ad cI cJ 2 n tc ki ra po se bc bs op pr pe pm) H := hP
  have hD : va_D A (md_w ad cI cJ 2 n tc ki ra po se bc bs op pr pe pm) := hD
  exact W.iret (v := nI 0) hx hb hr (fun t ht hW => ⟨⟨nI 0, (), rfl, rfl, by rw [ht]; exact hP, va_K.moved hW.alike hK, hD⟩, hS.F ht⟩) hS.2.2 d_M_issuer_6
set_option maxHeartbeats 4000000 in
set_option maxRecDepth 100000 in
theorem m_clear_y (l : Launch) (dC : Nat → ClassId) (dI : Nat → Nat → Nat) (ad : Nat → Nat) (cI cJ : ClassId) (cd n tc : Nat) (ki ra : Nat → Int32) (po se : Nat → Int64) (bc : Nat → Int32) (bs op : Nat → Int64) (pr pe : Nat → Int32) (pm : Nat → Int64) (sz : Nat) (i j : Nat) (x : Int64) (h0i : 0 < i) (h0j : 0 < j) (hji : i < n) (hjj : j < n) (hn : n ≤ 15) (hki : ki i = nI 1) (hkj : ki j = nI 2) (h1 : ¬ x < 1) (h2 : ¬ 1000000000000 < x) : Met l y_M_clear (.code y_M_clear b_M_clear 11 (some .long) :: wAll) ({ frames := 1, cells := 0, slots := 0, locals := 22 } : Room) (mu_P [.ref (ad 0), .int (nI i), .int (nI j), .long x] (dC, dI) vwCl [(cI, .int), (cJ, .long)] (md_w ad cI cJ cd n tc ki ra po se bc bs op pr pe pm) sz) (va_Ql (fun (z : Int64) (_ : Unit) => z = mcv x (ra i + ra j)) (mu_B (dC, dI) vwCl [(cI, .int), (cJ, .long)] (va_A (md_w ad cI cJ cd n tc ki ra po se bc bs op pr pe pm) sz) (md_w ad cI cJ 0 n tc ki ra (po_cl po i j x (mcv x (ra i + ra j)) (dnv x (ra j))) se (upd bc i (bc i + nI 1)) (vp_updL bs i (bs i + x)) op pr pe pm)) (va_A (md_w ad cI cJ cd n tc ki ra po se bc bs op pr pe pm) sz)) 0 0 (va_A (md_w ad cI cJ cd n tc ki ra po se bc bs op pr pe pm) sz) := by
  refine Met.ofW (cc := b_M_clear) (maxL := 11) (ret := (some .long)) (by decide) rfl ?_
  intro p e s m args below meth c s₁ B hml hv
  obtain ⟨rfl, hsz, hP, hK, hD0⟩ := hv
  have hx := B.exec
  have hb := B.bytes
  have hr := B.returns
  have hts0 := atoms_spec (ws := (.code y_M_clear b_M_clear 11 (some .long) :: wAll)) B.pre
  have hts := hts_all hts0
  have hown : s.vm.findClass "ClearingBooksModel" = some m.cls := findClass_of_methodNamed B.named
  have hlocks := B.notSynchronized
  subst hsz
  have hD := hD0.self (sz := s.heap.size)
  generalize hAe : va_A (md_w ad cI cJ cd n tc ki ra po se bc bs op pr pe pm) s.heap.size = A at hD ⊢
  have hA : ∀ q : Nat, s.heap.size ≤ q → A q := fun q h => by rw [← hAe]; exact Or.inr h
  have hS : va_S A s.heap s.heap [] := va_S.rf
  have hl := lv_entry ([.ref (ad 0), .int (nI i), .int (nI j), .long x]) (n := 11) (Nat.le_of_ble_eq_true rfl)
  rw [lg_entry_eq]
  generalize (lg_sl ([.ref (ad 0), .int (nI i), .int (nI j), .long x]) ++ List.replicate (11 - (lg_sl ([.ref (ad 0), .int (nI i), .int (nI j), .long x])).length) Slot.unset).toArray = ls at hl ⊢
  have hl : lv_has ls 11 [(0, .ref (ad 0)), (1, .int (nI i)), (2, .int (nI j)), (3, .long x)] := hl
  refine lv_aload_n hx hb d_M_clear_0 rfl (lv_at hl 0 rfl) ?_
  refine lv_aload_n hx hb d_M_clear_1 rfl (lv_at hl 0 rfl) ?_
  refine lv_iload_n hx hb d_M_clear_2 rfl (lv_at hl 1 rfl) ?_
  refine lv_iconst (v := nI 1) hx hb d_M_clear_3 (by decide) ?_
  refine ro_call (va_runV (As := [.int (nI i), .int (nI 1)]) (rest := [.ref (ad 0)]) ⟨hx, hb, hml, hown, hts⟩ (m_is_y l dC dI ad cI cJ cd n tc ki ra po se bc bs op pr pe pm i (nI 1) h0i hji hn hki) (cwV 2 hts (wAll_v kw_333 kw_335 ks_11 kw_2 kw_336) rfl rfl rfl (by decide +kernel) ⟨Nat.le_of_ble_eq_true rfl, Nat.le_of_ble_eq_true rfl⟩) (ro_preV bl_tt hK hP (ci := 1) (q0 := 0) rfl rfl (fun _ _ _ => trivial)) rfl rfl hl.1 rfl (lv_room (Nat.le_of_ble_eq_true rfl)) d_M_clear_4 ⟨Nat.le_of_ble_eq_true rfl, Nat.le_of_ble_eq_true rfl⟩) ?_
  refine W.eq (g2 := F0 m 7 ls [.int (nI 1), .ref (ad 0)]) rfl ?_
  refine lv_if_eq (tgt := 37) hx hb d_M_clear_7 (by decide) (fun c1 => ?_) (fun c1 => ?_)
  · exact absurd c1 (by decide)
  · refine lv_aload_n hx hb d_M_clear_10 rfl (lv_at hl 0 rfl) ?_
    refine lv_iload_n hx hb d_M_clear_11 rfl (lv_at hl 2 rfl) ?_
    refine lv_iconst (v := nI 2) hx hb d_M_clear_12 (by decide) ?_
    refine ro_call (va_runV (As := [.int (nI j), .int (nI 2)]) (rest := [.ref (ad 0)]) ⟨hx, hb, hml, hown, hts⟩ (m_is_y l dC dI ad cI cJ cd n tc ki ra po se bc bs op pr pe pm j (nI 2) h0j hjj hn hkj) (cwV 2 hts (wAll_v kw_333 kw_335 ks_11 kw_2 kw_336) rfl rfl rfl (by decide +kernel) ⟨Nat.le_of_ble_eq_true rfl, Nat.le_of_ble_eq_true rfl⟩) (ro_preV bl_tt hK hP (ci := 1) (q0 := 0) rfl rfl (fun _ _ _ => trivial)) rfl rfl hl.1 rfl (lv_room (Nat.le_of_ble_eq_true rfl)) d_M_clear_13 ⟨Nat.le_of_ble_eq_true rfl, Nat.le_of_ble_eq_true rfl⟩) ?_
    refine W.eq (g2 := F0 m 16 ls [.int (nI 1), .ref (ad 0)]) rfl ?_
    refine lv_if_eq (tgt := 37) hx hb d_M_clear_16 (by decide) (fun c2 => ?_) (fun c2 => ?_)
    · exact absurd c2 (by decide)
    · refine lv_lload_n hx hb d_M_clear_19 rfl (lv_at hl 3 rfl) ?_
      refine lv_lconst (v := 1) hx hb d_M_clear_20 (by decide) ?_
      refine W.lcmp hx hb d_M_clear_21 ?_
      refine lv_if_lt (tgt := 37) hx hb d_M_clear_22 (by decide) (fun c3 => ?_) (fun c3 => ?_)
      · replace c3 := (lg_cmp_lt _ _).mp c3
        exact absurd c3 h1
      · replace c3 := mt (lg_cmp_lt _ _).mpr c3
        refine lv_lload_n hx hb d_M_clear_25 rfl (lv_at hl 3 rfl) ?_
        refine lv_ldc2 (v := 1000000000000) hx hb hown (hts _ kw_337) d_M_clear_26 ?_
        refine W.lcmp hx hb d_M_clear_29 ?_
        refine lv_if_gt (tgt := 37) hx hb d_M_clear_30 (by decide) (fun c4 => ?_) (fun c4 => ?_)
        · replace c4 := (lg_cmp_gt _ _).mp c4
          exact absurd c4 h2
        · replace c4 := mt (lg_cmp_gt _ _).mpr c4
          refine lv_iconst (v := nI 1) hx hb d_M_clear_33 (by decide) ?_
          refine lv_goto (tgt := 38) hx hb d_M_clear_34 (by decide) ?_
          refine mu_calli (va_runV (As := [.int (nI 1)]) (rest := []) ⟨hx, hb, hml, hown, hts⟩ (m_goes_y l dC dI ad cI cJ cd n tc ki ra po se bc bs op pr pe pm _ ) (cwV 1 hts (wAll_v kw_338 kw_340 ks_12 kw_2 kw_341) rfl rfl rfl (by decide +kernel) ⟨Nat.le_of_ble_eq_true rfl, Nat.le_of_ble_eq_true rfl⟩) (mu_preV hK hP hD (ci := 1) (q0 := 0) rfl rfl) rfl rfl hl.1 rfl (lv_room (Nat.le_of_ble_eq_true rfl)) d_M_clear_38 ⟨Nat.le_of_ble_eq_true rfl, Nat.le_of_ble_eq_true rfl⟩) hD hS hA (fun r H locs hq hP hD hS => ?_)
          obtain rfl := hq
          have hP : va_P (dC, dI) vwCl (md_w ad cI cJ 0 n tc ki ra po se bc bs op pr pe pm) H := hP
          have hD : va_D A (md_w ad cI cJ 0 n tc ki ra po se bc bs op pr pe pm) := hD
          refine lv_if_ne (tgt := 46) hx hb d_M_clear_41 (by decide) (fun c5 => ?_) (fun c5 => ?_)
          · refine lv_lload_n hx hb d_M_clear_46 rfl (lv_at hl 3 rfl) ?_
            refine lv_aload_n hx hb d_M_clear_47 rfl (lv_at hl 0 rfl) ?_
            refine va_get (D := (dC, dI)) (ci := 1) (v := .ref (ad 2)) (C := "ClearingBooksModel") (T := T_M) (N := 13) hx hb hts wi_M hown hK hP 0 rfl rfl 3 (by decide) (hts _ kw_276) (fun _ h9 => h9) rfl d_M_clear_48 ?_
            refine lv_iload_n hx hb d_M_clear_51 rfl (lv_at hl 1 rfl) ?_
            refine xa_iaload (f := ra) hx hb hK hP 2 0 rfl rfl (j := i) (by omega) (by decide) d_M_clear_52 ?_
            refine lv_aload_n hx hb d_M_clear_53 rfl (lv_at hl 0 rfl) ?_
            refine va_get (D := (dC, dI)) (ci := 1) (v := .ref (ad 2)) (C := "ClearingBooksModel") (T := T_M) (N := 13) hx hb hts wi_M hown hK hP 0 rfl rfl 3 (by decide) (hts _ kw_276) (fun _ h9 => h9) rfl d_M_clear_54 ?_
            refine lv_iload_n hx hb d_M_clear_57 rfl (lv_at hl 2 rfl) ?_
            refine xa_iaload (f := ra) hx hb hK hP 2 0 rfl rfl (j := j) (by omega) (by decide) d_M_clear_58 ?_
            refine lv_iadd hx hb d_M_clear_59 ?_
            refine lv_i2l (v := ((ra i) + (ra j)).toInt64) hx hb d_M_clear_60 rfl ?_
            refine lv_lmul hx hb d_M_clear_61 ?_
            refine lv_lstore (lv' := [(5, .long (x * (((ra i) + (ra j)).toInt64))), (0, .ref (ad 0)), (1, .int (nI i)), (2, .int (nI j)), (3, .long x)]) hx hb d_M_clear_62 hl (by decide) rfl (fun ls hl => ?_)
            refine lv_lload hx hb d_M_clear_64 (lv_at hl 0 rfl) ?_
            refine lv_ldc2 (v := 10000) hx hb hown (hts _ kw_342) d_M_clear_66 ?_
            refine lv_ldiv hx hb d_M_clear_69 (by decide) ?_
            refine lv_lstore (lv' := [(7, .long ((x * (((ra i) + (ra j)).toInt64)) / 10000)), (5, .long (x * (((ra i) + (ra j)).toInt64))), (0, .ref (ad 0)), (1, .int (nI i)), (2, .int (nI j)), (3, .long x)]) hx hb d_M_clear_70 hl (by decide) rfl (fun ls hl => ?_)
            refine lv_lload hx hb d_M_clear_72 (lv_at hl 0 rfl) ?_
            refine lv_lload hx hb d_M_clear_74 (lv_at hl 0 rfl) ?_
            refine lv_ldc2 (v := 10000) hx hb hown (hts _ kw_342) d_M_clear_76 ?_
            refine lv_lmul hx hb d_M_clear_79 ?_
            refine lv_lload hx hb d_M_clear_80 (lv_at hl 1 rfl) ?_
            refine W.lcmp hx hb d_M_clear_82 ?_
            refine lv_if_ge (tgt := 90) hx hb d_M_clear_83 (by decide) (fun c6 => ?_) (fun c6 => ?_)
            · replace c6 := (lg_cmp_ge _ _).mp c6
              refine lv_lconst (v := 0) hx hb d_M_clear_90 (by decide) ?_
              refine lv_ladd hx hb d_M_clear_91 ?_
              refine lv_topl (fun cs ecs => ?_)
              have e9 : cs = mcv x (ra i + ra j) := by rw [ecs]; unfold mcv; first | rw [if_pos (by assumption)] | rw [if_neg (by assumption)]
              subst e9
              refine lv_lstore (lv' := [(7, .long (mcv x (ra i + ra j))), (5, .long (x * (((ra i) + (ra j)).toInt64))), (0, .ref (ad 0)), (1, .int (nI i)), (2, .int (nI j)), (3, .long x)]) hx hb d_M_clear_92 hl (by decide) rfl (fun ls hl => ?_)
              refine lv_lload_n hx hb d_M_clear_94 rfl (lv_at hl 5 rfl) ?_
              refine lv_aload_n hx hb d_M_clear_95 rfl (lv_at hl 2 rfl) ?_
              refine va_get (D := (dC, dI)) (ci := 1) (v := .ref (ad 2)) (C := "ClearingBooksModel") (T := T_M) (N := 13) hx hb hts wi_M hown hK hP 0 rfl rfl 3 (by decide) (hts _ kw_276) (fun _ h9 => h9) rfl d_M_clear_96 ?_
              refine lv_iload_n hx hb d_M_clear_99 rfl (lv_at hl 4 rfl) ?_
              refine xa_iaload (f := ra) hx hb hK hP 2 0 rfl rfl (j := j) (by omega) (by decide) d_M_clear_100 ?_
              refine lv_i2l (v := (ra j).toInt64) hx hb d_M_clear_101 rfl ?_
              refine lv_lmul hx hb d_M_clear_102 ?_
              refine lv_ldc2 (v := 10000) hx hb hown (hts _ kw_342) d_M_clear_103 ?_
              refine lv_ldiv hx hb d_M_clear_106 (by decide) ?_
              refine lv_lstore (lv' := [(9, .long ((x * ((ra j).toInt64)) / 10000)), (7, .long (mcv x (ra i + ra j))), (5, .long (x * (((ra i) + (ra j)).toInt64))), (0, .ref (ad 0)), (1, .int (nI i)), (2, .int (nI j)), (3, .long x)]) hx hb d_M_clear_107 hl (by decide) rfl (fun ls hl => ?_)
              refine lv_aload_n hx hb d_M_clear_109 rfl (lv_at hl 3 rfl) ?_
              refine va_get (D := (dC, dI)) (ci := 1) (v := .ref (ad 3)) (C := "ClearingBooksModel") (T := T_M) (N := 13) hx hb hts wi_M hown hK hP 0 rfl rfl 4 (by decide) (hts _ kw_277) (fun _ h9 => h9) rfl d_M_clear_110 ?_
              refine lv_iload_n hx hb d_M_clear_113 rfl (lv_at hl 4 rfl) ?_
              refine lv_dup2_11 hx hb d_M_clear_114 rfl rfl ?_
              refine xa_laload (f := po) hx hb hK hP 3 1 rfl rfl (j := i) (by omega) (by decide) d_M_clear_115 ?_
              refine lv_lload_n hx hb d_M_clear_116 rfl (lv_at hl 6 rfl) ?_
              refine lv_lload hx hb d_M_clear_117 (lv_at hl 1 rfl) ?_
              refine lv_lsub hx hb d_M_clear_119 ?_
              refine lv_ladd hx hb d_M_clear_120 ?_
              refine xa_lastore (f := po) (x := (po i) + (x - (mcv x (ra i + ra j)))) hx hb hK hP hD hS 3 1 rfl rfl (j := i) (by omega) (by decide) d_M_clear_121 (fun H locs hP hD hS => ?_)
              have hP : va_P (dC, dI) vwCl (md_w ad cI cJ 0 n tc ki ra (vp_updL po i ((po i) + (x - (mcv x (ra i + ra j))))) se bc bs op pr pe pm) H := hP
              have hD : va_D A (md_w ad cI cJ 0 n tc ki ra (vp_updL po i ((po i) + (x - (mcv x (ra i + ra j))))) se bc bs op pr pe pm) := hD
              refine lv_aload_n hx hb d_M_clear_122 rfl (lv_at hl 3 rfl) ?_
              refine va_get (D := (dC, dI)) (ci := 1) (v := .ref (ad 3)) (C := "ClearingBooksModel") (T := T_M) (N := 13) hx hb hts wi_M hown hK hP 0 rfl rfl 4 (by decide) (hts _ kw_277) (fun _ h9 => h9) rfl d_M_clear_123 ?_
              refine lv_iload_n hx hb d_M_clear_126 rfl (lv_at hl 5 rfl) ?_
              refine lv_dup2_11 hx hb d_M_clear_127 rfl rfl ?_
              refine xa_laload (f := vp_updL po i ((po i) + (x - (mcv x (ra i + ra j))))) hx hb hK hP 3 1 rfl rfl (j := j) (by omega) (by decide) d_M_clear_128 ?_
              refine lv_lload hx hb d_M_clear_129 (lv_at hl 0 rfl) ?_
              refine lv_lload_n hx hb d_M_clear_131 rfl (lv_at hl 6 rfl) ?_
              refine lv_lsub hx hb d_M_clear_132 ?_
              refine lv_ladd hx hb d_M_clear_133 ?_
              refine xa_lastore (f := vp_updL po i ((po i) + (x - (mcv x (ra i + ra j))))) (x := ((vp_updL po i ((po i) + (x - (mcv x (ra i + ra j))))) j) + (((x * ((ra j).toInt64)) / 10000) - x)) hx hb hK hP hD hS 3 1 rfl rfl (j := j) (by omega) (by decide) d_M_clear_134 (fun H locs hP hD hS => ?_)
              have hP : va_P (dC, dI) vwCl (md_w ad cI cJ 0 n tc ki ra (vp_updL (vp_updL po i ((po i) + (x - (mcv x (ra i + ra j))))) j (((vp_updL po i ((po i) + (x - (mcv x (ra i + ra j))))) j) + (((x * ((ra j).toInt64)) / 10000) - x))) se bc bs op pr pe pm) H := hP
              have hD : va_D A (md_w ad cI cJ 0 n tc ki ra (vp_updL (vp_updL po i ((po i) + (x - (mcv x (ra i + ra j))))) j (((vp_updL po i ((po i) + (x - (mcv x (ra i + ra j))))) j) + (((x * ((ra j).toInt64)) / 10000) - x))) se bc bs op pr pe pm) := hD
              refine lv_aload_n hx hb d_M_clear_135 rfl (lv_at hl 3 rfl) ?_
              refine va_get (D := (dC, dI)) (ci := 1) (v := .ref (ad 3)) (C := "ClearingBooksModel") (T := T_M) (N := 13) hx hb hts wi_M hown hK hP 0 rfl rfl 4 (by decide) (hts _ kw_277) (fun _ h9 => h9) rfl d_M_clear_136 ?_
              refine lv_iconst (v := nI 0) hx hb d_M_clear_139 (by decide) ?_
              refine lv_dup2_11 hx hb d_M_clear_140 rfl rfl ?_
              refine xa_laload (f := vp_updL (vp_updL po i ((po i) + (x - (mcv x (ra i + ra j))))) j (((vp_updL po i ((po i) + (x - (mcv x (ra i + ra j))))) j) + (((x * ((ra j).toInt64)) / 10000) - x))) hx hb hK hP 3 1 rfl rfl (j := 0) (by omega) (by decide) d_M_clear_141 ?_
              refine lv_lload hx hb d_M_clear_142 (lv_at hl 1 rfl) ?_
              refine lv_lload hx hb d_M_clear_144 (lv_at hl 0 rfl) ?_
              refine lv_lsub hx hb d_M_clear_146 ?_
              refine lv_ladd hx hb d_M_clear_147 ?_
              refine xa_lastore (f := vp_updL (vp_updL po i ((po i) + (x - (mcv x (ra i + ra j))))) j (((vp_updL po i ((po i) + (x - (mcv x (ra i + ra j))))) j) + (((x * ((ra j).toInt64)) / 10000) - x))) (x := ((vp_updL (vp_updL po i ((po i) + (x - (mcv x (ra i + ra j))))) j (((vp_updL po i ((po i) + (x - (mcv x (ra i + ra j))))) j) + (((x * ((ra j).toInt64)) / 10000) - x))) 0) + ((mcv x (ra i + ra j)) - ((x * ((ra j).toInt64)) / 10000))) hx hb hK hP hD hS 3 1 rfl rfl (j := 0) (by omega) (by decide) d_M_clear_148 (fun H locs hP hD hS => ?_)
              have hP : va_P (dC, dI) vwCl (md_w ad cI cJ 0 n tc ki ra (vp_updL (vp_updL (vp_updL po i ((po i) + (x - (mcv x (ra i + ra j))))) j (((vp_updL po i ((po i) + (x - (mcv x (ra i + ra j))))) j) + (((x * ((ra j).toInt64)) / 10000) - x))) 0 (((vp_updL (vp_updL po i ((po i) + (x - (mcv x (ra i + ra j))))) j (((vp_updL po i ((po i) + (x - (mcv x (ra i + ra j))))) j) + (((x * ((ra j).toInt64)) / 10000) - x))) 0) + ((mcv x (ra i + ra j)) - ((x * ((ra j).toInt64)) / 10000)))) se bc bs op pr pe pm) H := hP
              have hD : va_D A (md_w ad cI cJ 0 n tc ki ra (vp_updL (vp_updL (vp_updL po i ((po i) + (x - (mcv x (ra i + ra j))))) j (((vp_updL po i ((po i) + (x - (mcv x (ra i + ra j))))) j) + (((x * ((ra j).toInt64)) / 10000) - x))) 0 (((vp_updL (vp_updL po i ((po i) + (x - (mcv x (ra i + ra j))))) j (((vp_updL po i ((po i) + (x - (mcv x (ra i + ra j))))) j) + (((x * ((ra j).toInt64)) / 10000) - x))) 0) + ((mcv x (ra i + ra j)) - ((x * ((ra j).toInt64)) / 10000)))) se bc bs op pr pe pm) := hD
              refine lv_aload_n hx hb d_M_clear_149 rfl (lv_at hl 3 rfl) ?_
              refine va_get (D := (dC, dI)) (ci := 1) (v := .ref (ad 5)) (C := "ClearingBooksModel") (T := T_M) (N := 13) hx hb hts wi_M hown hK hP 0 rfl rfl 6 (by decide) (hts _ kw_279) (fun _ h9 => h9) rfl d_M_clear_150 ?_
              refine lv_iload_n hx hb d_M_clear_153 rfl (lv_at hl 4 rfl) ?_
              refine lv_dup2_11 hx hb d_M_clear_154 rfl rfl ?_
              refine xa_iaload (f := bc) hx hb hK hP 5 0 rfl rfl (j := i) (by omega) (by decide) d_M_clear_155 ?_
              refine lv_iconst (v := nI 1) hx hb d_M_clear_156 (by decide) ?_
              refine lv_iadd hx hb d_M_clear_157 ?_
              refine xa_iastore (f := bc) (x := (bc i) + (nI 1)) hx hb hK hP hD hS 5 0 rfl rfl (j := i) (by omega) (by decide) d_M_clear_158 (fun H locs hP hD hS => ?_)
              have hP : va_P (dC, dI) vwCl (md_w ad cI cJ 0 n tc ki ra (vp_updL (vp_updL (vp_updL po i ((po i) + (x - (mcv x (ra i + ra j))))) j (((vp_updL po i ((po i) + (x - (mcv x (ra i + ra j))))) j) + (((x * ((ra j).toInt64)) / 10000) - x))) 0 (((vp_updL (vp_updL po i ((po i) + (x - (mcv x (ra i + ra j))))) j (((vp_updL po i ((po i) + (x - (mcv x (ra i + ra j))))) j) + (((x * ((ra j).toInt64)) / 10000) - x))) 0) + ((mcv x (ra i + ra j)) - ((x * ((ra j).toInt64)) / 10000)))) se (upd bc i ((bc i) + (nI 1))) bs op pr pe pm) H := hP
              have hD : va_D A (md_w ad cI cJ 0 n tc ki ra (vp_updL (vp_updL (vp_updL po i ((po i) + (x - (mcv x (ra i + ra j))))) j (((vp_updL po i ((po i) + (x - (mcv x (ra i + ra j))))) j) + (((x * ((ra j).toInt64)) / 10000) - x))) 0 (((vp_updL (vp_updL po i ((po i) + (x - (mcv x (ra i + ra j))))) j (((vp_updL po i ((po i) + (x - (mcv x (ra i + ra j))))) j) + (((x * ((ra j).toInt64)) / 10000) - x))) 0) + ((mcv x (ra i + ra j)) - ((x * ((ra j).toInt64)) / 10000)))) se (upd bc i ((bc i) + (nI 1))) bs op pr pe pm) := hD
              refine lv_aload_n hx hb d_M_clear_159 rfl (lv_at hl 3 rfl) ?_
              refine va_get (D := (dC, dI)) (ci := 1) (v := .ref (ad 6)) (C := "ClearingBooksModel") (T := T_M) (N := 13) hx hb hts wi_M hown hK hP 0 rfl rfl 7 (by decide) (hts _ kw_280) (fun _ h9 => h9) rfl d_M_clear_160 ?_
              refine lv_iload_n hx hb d_M_clear_163 rfl (lv_at hl 4 rfl) ?_
              refine lv_dup2_11 hx hb d_M_clear_164 rfl rfl ?_
              refine xa_laload (f := bs) hx hb hK hP 6 1 rfl rfl (j := i) (by omega) (by decide) d_M_clear_165 ?_
              refine lv_lload_n hx hb d_M_clear_166 rfl (lv_at hl 6 rfl) ?_
              refine lv_ladd hx hb d_M_clear_167 ?_
              refine xa_lastore (f := bs) (x := (bs i) + x) hx hb hK hP hD hS 6 1 rfl rfl (j := i) (by omega) (by decide) d_M_clear_168 (fun H locs hP hD hS => ?_)
              have hP : va_P (dC, dI) vwCl (md_w ad cI cJ 0 n tc ki ra (vp_updL (vp_updL (vp_updL po i ((po i) + (x - (mcv x (ra i + ra j))))) j (((vp_updL po i ((po i) + (x - (mcv x (ra i + ra j))))) j) + (((x * ((ra j).toInt64)) / 10000) - x))) 0 (((vp_updL (vp_updL po i ((po i) + (x - (mcv x (ra i + ra j))))) j (((vp_updL po i ((po i) + (x - (mcv x (ra i + ra j))))) j) + (((x * ((ra j).toInt64)) / 10000) - x))) 0) + ((mcv x (ra i + ra j)) - ((x * ((ra j).toInt64)) / 10000)))) se (upd bc i ((bc i) + (nI 1))) (vp_updL bs i ((bs i) + x)) op pr pe pm) H := hP
              have hD : va_D A (md_w ad cI cJ 0 n tc ki ra (vp_updL (vp_updL (vp_updL po i ((po i) + (x - (mcv x (ra i + ra j))))) j (((vp_updL po i ((po i) + (x - (mcv x (ra i + ra j))))) j) + (((x * ((ra j).toInt64)) / 10000) - x))) 0 (((vp_updL (vp_updL po i ((po i) + (x - (mcv x (ra i + ra j))))) j (((vp_updL po i ((po i) + (x - (mcv x (ra i + ra j))))) j) + (((x * ((ra j).toInt64)) / 10000) - x))) 0) + ((mcv x (ra i + ra j)) - ((x * ((ra j).toInt64)) / 10000)))) se (upd bc i ((bc i) + (nI 1))) (vp_updL bs i ((bs i) + x)) op pr pe pm) := hD
              refine lv_lload hx hb d_M_clear_169 (lv_at hl 1 rfl) ?_
              exact W.lret (v := mcv x (ra i + ra j)) hx hb hr (fun t ht hW => ⟨⟨mcv x (ra i + ra j), (), rfl, rfl, by rw [ht]; exact hP, va_K.moved hW.alike hK, hD⟩, hS.F ht⟩) hS.2.2 d_M_clear_171
            · replace c6 := mt (lg_cmp_ge _ _).mpr c6
              refine lv_lconst (v := 1) hx hb d_M_clear_86 (by decide) ?_
              refine lv_goto (tgt := 91) hx hb d_M_clear_87 (by decide) ?_
              refine lv_ladd hx hb d_M_clear_91 ?_
              refine lv_topl (fun cs ecs => ?_)
              have e9 : cs = mcv x (ra i + ra j) := by rw [ecs]; unfold mcv; first | rw [if_pos (by assumption)] | rw [if_neg (by assumption)]
              subst e9
              refine lv_lstore (lv' := [(7, .long (mcv x (ra i + ra j))), (5, .long (x * (((ra i) + (ra j)).toInt64))), (0, .ref (ad 0)), (1, .int (nI i)), (2, .int (nI j)), (3, .long x)]) hx hb d_M_clear_92 hl (by decide) rfl (fun ls hl => ?_)
              refine lv_lload_n hx hb d_M_clear_94 rfl (lv_at hl 5 rfl) ?_
              refine lv_aload_n hx hb d_M_clear_95 rfl (lv_at hl 2 rfl) ?_
              refine va_get (D := (dC, dI)) (ci := 1) (v := .ref (ad 2)) (C := "ClearingBooksModel") (T := T_M) (N := 13) hx hb hts wi_M hown hK hP 0 rfl rfl 3 (by decide) (hts _ kw_276) (fun _ h9 => h9) rfl d_M_clear_96 ?_
              refine lv_iload_n hx hb d_M_clear_99 rfl (lv_at hl 4 rfl) ?_
              refine xa_iaload (f := ra) hx hb hK hP 2 0 rfl rfl (j := j) (by omega) (by decide) d_M_clear_100 ?_
              refine lv_i2l (v := (ra j).toInt64) hx hb d_M_clear_101 rfl ?_
              refine lv_lmul hx hb d_M_clear_102 ?_
              refine lv_ldc2 (v := 10000) hx hb hown (hts _ kw_342) d_M_clear_103 ?_
              refine lv_ldiv hx hb d_M_clear_106 (by decide) ?_
              refine lv_lstore (lv' := [(9, .long ((x * ((ra j).toInt64)) / 10000)), (7, .long (mcv x (ra i + ra j))), (5, .long (x * (((ra i) + (ra j)).toInt64))), (0, .ref (ad 0)), (1, .int (nI i)), (2, .int (nI j)), (3, .long x)]) hx hb d_M_clear_107 hl (by decide) rfl (fun ls hl => ?_)
              refine lv_aload_n hx hb d_M_clear_109 rfl (lv_at hl 3 rfl) ?_
              refine va_get (D := (dC, dI)) (ci := 1) (v := .ref (ad 3)) (C := "ClearingBooksModel") (T := T_M) (N := 13) hx hb hts wi_M hown hK hP 0 rfl rfl 4 (by decide) (hts _ kw_277) (fun _ h9 => h9) rfl d_M_clear_110 ?_
              refine lv_iload_n hx hb d_M_clear_113 rfl (lv_at hl 4 rfl) ?_
              refine lv_dup2_11 hx hb d_M_clear_114 rfl rfl ?_
              refine xa_laload (f := po) hx hb hK hP 3 1 rfl rfl (j := i) (by omega) (by decide) d_M_clear_115 ?_
              refine lv_lload_n hx hb d_M_clear_116 rfl (lv_at hl 6 rfl) ?_
              refine lv_lload hx hb d_M_clear_117 (lv_at hl 1 rfl) ?_
              refine lv_lsub hx hb d_M_clear_119 ?_
              refine lv_ladd hx hb d_M_clear_120 ?_
              refine xa_lastore (f := po) (x := (po i) + (x - (mcv x (ra i + ra j)))) hx hb hK hP hD hS 3 1 rfl rfl (j := i) (by omega) (by decide) d_M_clear_121 (fun H locs hP hD hS => ?_)
              have hP : va_P (dC, dI) vwCl (md_w ad cI cJ 0 n tc ki ra (vp_updL po i ((po i) + (x - (mcv x (ra i + ra j))))) se bc bs op pr pe pm) H := hP
              have hD : va_D A (md_w ad cI cJ 0 n tc ki ra (vp_updL po i ((po i) + (x - (mcv x (ra i + ra j))))) se bc bs op pr pe pm) := hD
              refine lv_aload_n hx hb d_M_clear_122 rfl (lv_at hl 3 rfl) ?_
              refine va_get (D := (dC, dI)) (ci := 1) (v := .ref (ad 3)) (C := "ClearingBooksModel") (T := T_M) (N := 13) hx hb hts wi_M hown hK hP 0 rfl rfl 4 (by decide) (hts _ kw_277) (fun _ h9 => h9) rfl d_M_clear_123 ?_
              refine lv_iload_n hx hb d_M_clear_126 rfl (lv_at hl 5 rfl) ?_
              refine lv_dup2_11 hx hb d_M_clear_127 rfl rfl ?_
              refine xa_laload (f := vp_updL po i ((po i) + (x - (mcv x (ra i + ra j))))) hx hb hK hP 3 1 rfl rfl (j := j) (by omega) (by decide) d_M_clear_128 ?_
              refine lv_lload hx hb d_M_clear_129 (lv_at hl 0 rfl) ?_
              refine lv_lload_n hx hb d_M_clear_131 rfl (lv_at hl 6 rfl) ?_
              refine lv_lsub hx hb d_M_clear_132 ?_
              refine lv_ladd hx hb d_M_clear_133 ?_
              refine xa_lastore (f := vp_updL po i ((po i) + (x - (mcv x (ra i + ra j))))) (x := ((vp_updL po i ((po i) + (x - (mcv x (ra i + ra j))))) j) + (((x * ((ra j).toInt64)) / 10000) - x)) hx hb hK hP hD hS 3 1 rfl rfl (j := j) (by omega) (by decide) d_M_clear_134 (fun H locs hP hD hS => ?_)
              have hP : va_P (dC, dI) vwCl (md_w ad cI cJ 0 n tc ki ra (vp_updL (vp_updL po i ((po i) + (x - (mcv x (ra i + ra j))))) j (((vp_updL po i ((po i) + (x - (mcv x (ra i + ra j))))) j) + (((x * ((ra j).toInt64)) / 10000) - x))) se bc bs op pr pe pm) H := hP
              have hD : va_D A (md_w ad cI cJ 0 n tc ki ra (vp_updL (vp_updL po i ((po i) + (x - (mcv x (ra i + ra j))))) j (((vp_updL po i ((po i) + (x - (mcv x (ra i + ra j))))) j) + (((x * ((ra j).toInt64)) / 10000) - x))) se bc bs op pr pe pm) := hD
              refine lv_aload_n hx hb d_M_clear_135 rfl (lv_at hl 3 rfl) ?_
              refine va_get (D := (dC, dI)) (ci := 1) (v := .ref (ad 3)) (C := "ClearingBooksModel") (T := T_M) (N := 13) hx hb hts wi_M hown hK hP 0 rfl rfl 4 (by decide) (hts _ kw_277) (fun _ h9 => h9) rfl d_M_clear_136 ?_
              refine lv_iconst (v := nI 0) hx hb d_M_clear_139 (by decide) ?_
              refine lv_dup2_11 hx hb d_M_clear_140 rfl rfl ?_
              refine xa_laload (f := vp_updL (vp_updL po i ((po i) + (x - (mcv x (ra i + ra j))))) j (((vp_updL po i ((po i) + (x - (mcv x (ra i + ra j))))) j) + (((x * ((ra j).toInt64)) / 10000) - x))) hx hb hK hP 3 1 rfl rfl (j := 0) (by omega) (by decide) d_M_clear_141 ?_
              refine lv_lload hx hb d_M_clear_142 (lv_at hl 1 rfl) ?_
              refine lv_lload hx hb d_M_clear_144 (lv_at hl 0 rfl) ?_
              refine lv_lsub hx hb d_M_clear_146 ?_
              refine lv_ladd hx hb d_M_clear_147 ?_
              refine xa_lastore (f := vp_updL (vp_updL po i ((po i) + (x - (mcv x (ra i + ra j))))) j (((vp_updL po i ((po i) + (x - (mcv x (ra i + ra j))))) j) + (((x * ((ra j).toInt64)) / 10000) - x))) (x := ((vp_updL (vp_updL po i ((po i) + (x - (mcv x (ra i + ra j))))) j (((vp_updL po i ((po i) + (x - (mcv x (ra i + ra j))))) j) + (((x * ((ra j).toInt64)) / 10000) - x))) 0) + ((mcv x (ra i + ra j)) - ((x * ((ra j).toInt64)) / 10000))) hx hb hK hP hD hS 3 1 rfl rfl (j := 0) (by omega) (by decide) d_M_clear_148 (fun H locs hP hD hS => ?_)
              have hP : va_P (dC, dI) vwCl (md_w ad cI cJ 0 n tc ki ra (vp_updL (vp_updL (vp_updL po i ((po i) + (x - (mcv x (ra i + ra j))))) j (((vp_updL po i ((po i) + (x - (mcv x (ra i + ra j))))) j) + (((x * ((ra j).toInt64)) / 10000) - x))) 0 (((vp_updL (vp_updL po i ((po i) + (x - (mcv x (ra i + ra j))))) j (((vp_updL po i ((po i) + (x - (mcv x (ra i + ra j))))) j) + (((x * ((ra j).toInt64)) / 10000) - x))) 0) + ((mcv x (ra i + ra j)) - ((x * ((ra j).toInt64)) / 10000)))) se bc bs op pr pe pm) H := hP
              have hD : va_D A (md_w ad cI cJ 0 n tc ki ra (vp_updL (vp_updL (vp_updL po i ((po i) + (x - (mcv x (ra i + ra j))))) j (((vp_updL po i ((po i) + (x - (mcv x (ra i + ra j))))) j) + (((x * ((ra j).toInt64)) / 10000) - x))) 0 (((vp_updL (vp_updL po i ((po i) + (x - (mcv x (ra i + ra j))))) j (((vp_updL po i ((po i) + (x - (mcv x (ra i + ra j))))) j) + (((x * ((ra j).toInt64)) / 10000) - x))) 0) + ((mcv x (ra i + ra j)) - ((x * ((ra j).toInt64)) / 10000)))) se bc bs op pr pe pm) := hD
              refine lv_aload_n hx hb d_M_clear_149 rfl (lv_at hl 3 rfl) ?_
              refine va_get (D := (dC, dI)) (ci := 1) (v := .ref (ad 5)) (C := "ClearingBooksModel") (T := T_M) (N := 13) hx hb hts wi_M hown hK hP 0 rfl rfl 6 (by decide) (hts _ kw_279) (fun _ h9 => h9) rfl d_M_clear_150 ?_
              refine lv_iload_n hx hb d_M_clear_153 rfl (lv_at hl 4 rfl) ?_
              refine lv_dup2_11 hx hb d_M_clear_154 rfl rfl ?_
              refine xa_iaload (f := bc) hx hb hK hP 5 0 rfl rfl (j := i) (by omega) (by decide) d_M_clear_155 ?_
              refine lv_iconst (v := nI 1) hx hb d_M_clear_156 (by decide) ?_
              refine lv_iadd hx hb d_M_clear_157 ?_
              refine xa_iastore (f := bc) (x := (bc i) + (nI 1)) hx hb hK hP hD hS 5 0 rfl rfl (j := i) (by omega) (by decide) d_M_clear_158 (fun H locs hP hD hS => ?_)
              have hP : va_P (dC, dI) vwCl (md_w ad cI cJ 0 n tc ki ra (vp_updL (vp_updL (vp_updL po i ((po i) + (x - (mcv x (ra i + ra j))))) j (((vp_updL po i ((po i) + (x - (mcv x (ra i + ra j))))) j) + (((x * ((ra j).toInt64)) / 10000) - x))) 0 (((vp_updL (vp_updL po i ((po i) + (x - (mcv x (ra i + ra j))))) j (((vp_updL po i ((po i) + (x - (mcv x (ra i + ra j))))) j) + (((x * ((ra j).toInt64)) / 10000) - x))) 0) + ((mcv x (ra i + ra j)) - ((x * ((ra j).toInt64)) / 10000)))) se (upd bc i ((bc i) + (nI 1))) bs op pr pe pm) H := hP
              have hD : va_D A (md_w ad cI cJ 0 n tc ki ra (vp_updL (vp_updL (vp_updL po i ((po i) + (x - (mcv x (ra i + ra j))))) j (((vp_updL po i ((po i) + (x - (mcv x (ra i + ra j))))) j) + (((x * ((ra j).toInt64)) / 10000) - x))) 0 (((vp_updL (vp_updL po i ((po i) + (x - (mcv x (ra i + ra j))))) j (((vp_updL po i ((po i) + (x - (mcv x (ra i + ra j))))) j) + (((x * ((ra j).toInt64)) / 10000) - x))) 0) + ((mcv x (ra i + ra j)) - ((x * ((ra j).toInt64)) / 10000)))) se (upd bc i ((bc i) + (nI 1))) bs op pr pe pm) := hD
              refine lv_aload_n hx hb d_M_clear_159 rfl (lv_at hl 3 rfl) ?_
              refine va_get (D := (dC, dI)) (ci := 1) (v := .ref (ad 6)) (C := "ClearingBooksModel") (T := T_M) (N := 13) hx hb hts wi_M hown hK hP 0 rfl rfl 7 (by decide) (hts _ kw_280) (fun _ h9 => h9) rfl d_M_clear_160 ?_
              refine lv_iload_n hx hb d_M_clear_163 rfl (lv_at hl 4 rfl) ?_
              refine lv_dup2_11 hx hb d_M_clear_164 rfl rfl ?_
              refine xa_laload (f := bs) hx hb hK hP 6 1 rfl rfl (j := i) (by omega) (by decide) d_M_clear_165 ?_
              refine lv_lload_n hx hb d_M_clear_166 rfl (lv_at hl 6 rfl) ?_
              refine lv_ladd hx hb d_M_clear_167 ?_
              refine xa_lastore (f := bs) (x := (bs i) + x) hx hb hK hP hD hS 6 1 rfl rfl (j := i) (by omega) (by decide) d_M_clear_168 (fun H locs hP hD hS => ?_)
              have hP : va_P (dC, dI) vwCl (md_w ad cI cJ 0 n tc ki ra (vp_updL (vp_updL (vp_updL po i ((po i) + (x - (mcv x (ra i + ra j))))) j (((vp_updL po i ((po i) + (x - (mcv x (ra i + ra j))))) j) + (((x * ((ra j).toInt64)) / 10000) - x))) 0 (((vp_updL (vp_updL po i ((po i) + (x - (mcv x (ra i + ra j))))) j (((vp_updL po i ((po i) + (x - (mcv x (ra i + ra j))))) j) + (((x * ((ra j).toInt64)) / 10000) - x))) 0) + ((mcv x (ra i + ra j)) - ((x * ((ra j).toInt64)) / 10000)))) se (upd bc i ((bc i) + (nI 1))) (vp_updL bs i ((bs i) + x)) op pr pe pm) H := hP
              have hD : va_D A (md_w ad cI cJ 0 n tc ki ra (vp_updL (vp_updL (vp_updL po i ((po i) + (x - (mcv x (ra i + ra j))))) j (((vp_updL po i ((po i) + (x - (mcv x (ra i + ra j))))) j) + (((x * ((ra j).toInt64)) / 10000) - x))) 0 (((vp_updL (vp_updL po i ((po i) + (x - (mcv x (ra i + ra j))))) j (((vp_updL po i ((po i) + (x - (mcv x (ra i + ra j))))) j) + (((x * ((ra j).toInt64)) / 10000) - x))) 0) + ((mcv x (ra i + ra j)) - ((x * ((ra j).toInt64)) / 10000)))) se (upd bc i ((bc i) + (nI 1))) (vp_updL bs i ((bs i) + x)) op pr pe pm) := hD
              refine lv_lload hx hb d_M_clear_169 (lv_at hl 1 rfl) ?_
              exact W.lret (v := mcv x (ra i + ra j)) hx hb hr (fun t ht hW => ⟨⟨mcv x (ra i + ra j), (), rfl, rfl, by rw [ht]; exact hP, va_K.moved hW.alike hK, hD⟩, hS.F ht⟩) hS.2.2 d_M_clear_171
          · exact absurd c5 (by decide)
set_option maxHeartbeats 4000000 in
set_option maxRecDepth 100000 in
theorem m_clear_ta (l : Launch) (dC : Nat → ClassId) (dI : Nat → Nat → Nat) (ad : Nat → Nat) (cI cJ : ClassId) (cd n tc : Nat) (ki ra : Nat → Int32) (po se : Nat → Int64) (bc : Nat → Int32) (bs op : Nat → Int64) (pr pe : Nat → Int32) (pm : Nat → Int64) (sz : Nat) (a b : Int32) (x : Int64) (hn : n ≤ 15) (hno : ¬ is_k n ki a (nI 1)) : Met l y_M_clear (.code y_M_clear b_M_clear 11 (some .long) :: wAll) ({ frames := 1, cells := 0, slots := 0, locals := 22 } : Room) (mu_P [.ref (ad 0), .int a, .int b, .long x] (dC, dI) vwCl [(cI, .int), (cJ, .long)] (md_w ad cI cJ cd n tc ki ra po se bc bs op pr pe pm) sz) (va_Ql (fun (z : Int64) (_ : Unit) => z = 0) (mu_B (dC, dI) vwCl [(cI, .int), (cJ, .long)] (va_A (md_w ad cI cJ cd n tc ki ra po se bc bs op pr pe pm) sz) (md_w ad cI cJ 1 n tc ki ra po se bc bs op pr pe pm)) (va_A (md_w ad cI cJ cd n tc ki ra po se bc bs op pr pe pm) sz)) 0 0 (va_A (md_w ad cI cJ cd n tc ki ra po se bc bs op pr pe pm) sz) := by
  refine Met.ofW (cc := b_M_clear) (maxL := 11) (ret := (some .long)) (by decide) rfl ?_
  intro p e s m args below meth c s₁ B hml hv
  obtain ⟨rfl, hsz, hP, hK, hD0⟩ := hv
  have hx := B.exec
  have hb := B.bytes
  have hr := B.returns
  have hts0 := atoms_spec (ws := (.code y_M_clear b_M_clear 11 (some .long) :: wAll)) B.pre
  have hts := hts_all hts0
  have hown : s.vm.findClass "ClearingBooksModel" = some m.cls := findClass_of_methodNamed B.named
  have hlocks := B.notSynchronized
  subst hsz
  have hD := hD0.self (sz := s.heap.size)
  generalize hAe : va_A (md_w ad cI cJ cd n tc ki ra po se bc bs op pr pe pm) s.heap.size = A at hD ⊢
  have hA : ∀ q : Nat, s.heap.size ≤ q → A q := fun q h => by rw [← hAe]; exact Or.inr h
  have hS : va_S A s.heap s.heap [] := va_S.rf
  have hl := lv_entry ([.ref (ad 0), .int a, .int b, .long x]) (n := 11) (Nat.le_of_ble_eq_true rfl)
  rw [lg_entry_eq]
  generalize (lg_sl ([.ref (ad 0), .int a, .int b, .long x]) ++ List.replicate (11 - (lg_sl ([.ref (ad 0), .int a, .int b, .long x])).length) Slot.unset).toArray = ls at hl ⊢
  have hl : lv_has ls 11 [(0, .ref (ad 0)), (1, .int a), (2, .int b), (3, .long x)] := hl
  refine lv_aload_n hx hb d_M_clear_0 rfl (lv_at hl 0 rfl) ?_
  refine lv_aload_n hx hb d_M_clear_1 rfl (lv_at hl 0 rfl) ?_
  refine lv_iload_n hx hb d_M_clear_2 rfl (lv_at hl 1 rfl) ?_
  refine lv_iconst (v := nI 1) hx hb d_M_clear_3 (by decide) ?_
  refine ro_call (va_runV (As := [.int a, .int (nI 1)]) (rest := [.ref (ad 0)]) ⟨hx, hb, hml, hown, hts⟩ (m_is_n l dC dI ad cI cJ cd n tc ki ra po se bc bs op pr pe pm a (nI 1) hn hno) (cwV 2 hts (wAll_v kw_333 kw_335 ks_11 kw_2 kw_336) rfl rfl rfl (by decide +kernel) ⟨Nat.le_of_ble_eq_true rfl, Nat.le_of_ble_eq_true rfl⟩) (ro_preV bl_tt hK hP (ci := 1) (q0 := 0) rfl rfl (fun _ _ _ => trivial)) rfl rfl hl.1 rfl (lv_room (Nat.le_of_ble_eq_true rfl)) d_M_clear_4 ⟨Nat.le_of_ble_eq_true rfl, Nat.le_of_ble_eq_true rfl⟩) ?_
  refine W.eq (g2 := F0 m 7 ls [.int (nI 0), .ref (ad 0)]) rfl ?_
  refine lv_if_eq (tgt := 37) hx hb d_M_clear_7 (by decide) (fun c1 => ?_) (fun c1 => ?_)
  · refine lv_iconst (v := nI 0) hx hb d_M_clear_37 (by decide) ?_
    refine mu_calli (va_runV (As := [.int (nI 0)]) (rest := []) ⟨hx, hb, hml, hown, hts⟩ (m_goes_n l dC dI ad cI cJ cd n tc ki ra po se bc bs op pr pe pm _ ) (cwV 1 hts (wAll_v kw_338 kw_340 ks_12 kw_2 kw_341) rfl rfl rfl (by decide +kernel) ⟨Nat.le_of_ble_eq_true rfl, Nat.le_of_ble_eq_true rfl⟩) (mu_preV hK hP hD (ci := 1) (q0 := 0) rfl rfl) rfl rfl hl.1 rfl (lv_room (Nat.le_of_ble_eq_true rfl)) d_M_clear_38 ⟨Nat.le_of_ble_eq_true rfl, Nat.le_of_ble_eq_true rfl⟩) hD hS hA (fun r H locs hq hP hD hS => ?_)
    obtain rfl := hq
    have hP : va_P (dC, dI) vwCl (md_w ad cI cJ 1 n tc ki ra po se bc bs op pr pe pm) H := hP
    have hD : va_D A (md_w ad cI cJ 1 n tc ki ra po se bc bs op pr pe pm) := hD
    refine lv_if_ne (tgt := 46) hx hb d_M_clear_41 (by decide) (fun c2 => ?_) (fun c2 => ?_)
    · exact absurd rfl c2
    · refine lv_lconst (v := 0) hx hb d_M_clear_44 (by decide) ?_
      exact W.lret (v := 0) hx hb hr (fun t ht hW => ⟨⟨0, (), rfl, rfl, by rw [ht]; exact hP, va_K.moved hW.alike hK, hD⟩, hS.F ht⟩) hS.2.2 d_M_clear_45
  · exact absurd rfl c1
set_option maxHeartbeats 4000000 in
set_option maxRecDepth 100000 in
theorem m_clear_tb (l : Launch) (dC : Nat → ClassId) (dI : Nat → Nat → Nat) (ad : Nat → Nat) (cI cJ : ClassId) (cd n tc : Nat) (ki ra : Nat → Int32) (po se : Nat → Int64) (bc : Nat → Int32) (bs op : Nat → Int64) (pr pe : Nat → Int32) (pm : Nat → Int64) (sz : Nat) (i : Nat) (b : Int32) (x : Int64) (h0i : 0 < i) (hji : i < n) (hn : n ≤ 15) (hki : ki i = nI 1) (hno : ¬ is_k n ki b (nI 2)) : Met l y_M_clear (.code y_M_clear b_M_clear 11 (some .long) :: wAll) ({ frames := 1, cells := 0, slots := 0, locals := 22 } : Room) (mu_P [.ref (ad 0), .int (nI i), .int b, .long x] (dC, dI) vwCl [(cI, .int), (cJ, .long)] (md_w ad cI cJ cd n tc ki ra po se bc bs op pr pe pm) sz) (va_Ql (fun (z : Int64) (_ : Unit) => z = 0) (mu_B (dC, dI) vwCl [(cI, .int), (cJ, .long)] (va_A (md_w ad cI cJ cd n tc ki ra po se bc bs op pr pe pm) sz) (md_w ad cI cJ 1 n tc ki ra po se bc bs op pr pe pm)) (va_A (md_w ad cI cJ cd n tc ki ra po se bc bs op pr pe pm) sz)) 0 0 (va_A (md_w ad cI cJ cd n tc ki ra po se bc bs op pr pe pm) sz) := by
  refine Met.ofW (cc := b_M_clear) (maxL := 11) (ret := (some .long)) (by decide) rfl ?_
  intro p e s m args below meth c s₁ B hml hv
  obtain ⟨rfl, hsz, hP, hK, hD0⟩ := hv
  have hx := B.exec
  have hb := B.bytes
  have hr := B.returns
  have hts0 := atoms_spec (ws := (.code y_M_clear b_M_clear 11 (some .long) :: wAll)) B.pre
  have hts := hts_all hts0
  have hown : s.vm.findClass "ClearingBooksModel" = some m.cls := findClass_of_methodNamed B.named
  have hlocks := B.notSynchronized
  subst hsz
  have hD := hD0.self (sz := s.heap.size)
  generalize hAe : va_A (md_w ad cI cJ cd n tc ki ra po se bc bs op pr pe pm) s.heap.size = A at hD ⊢
  have hA : ∀ q : Nat, s.heap.size ≤ q → A q := fun q h => by rw [← hAe]; exact Or.inr h
  have hS : va_S A s.heap s.heap [] := va_S.rf
  have hl := lv_entry ([.ref (ad 0), .int (nI i), .int b, .long x]) (n := 11) (Nat.le_of_ble_eq_true rfl)
  rw [lg_entry_eq]
  generalize (lg_sl ([.ref (ad 0), .int (nI i), .int b, .long x]) ++ List.replicate (11 - (lg_sl ([.ref (ad 0), .int (nI i), .int b, .long x])).length) Slot.unset).toArray = ls at hl ⊢
  have hl : lv_has ls 11 [(0, .ref (ad 0)), (1, .int (nI i)), (2, .int b), (3, .long x)] := hl
  refine lv_aload_n hx hb d_M_clear_0 rfl (lv_at hl 0 rfl) ?_
  refine lv_aload_n hx hb d_M_clear_1 rfl (lv_at hl 0 rfl) ?_
  refine lv_iload_n hx hb d_M_clear_2 rfl (lv_at hl 1 rfl) ?_
  refine lv_iconst (v := nI 1) hx hb d_M_clear_3 (by decide) ?_
  refine ro_call (va_runV (As := [.int (nI i), .int (nI 1)]) (rest := [.ref (ad 0)]) ⟨hx, hb, hml, hown, hts⟩ (m_is_y l dC dI ad cI cJ cd n tc ki ra po se bc bs op pr pe pm i (nI 1) h0i hji hn hki) (cwV 2 hts (wAll_v kw_333 kw_335 ks_11 kw_2 kw_336) rfl rfl rfl (by decide +kernel) ⟨Nat.le_of_ble_eq_true rfl, Nat.le_of_ble_eq_true rfl⟩) (ro_preV bl_tt hK hP (ci := 1) (q0 := 0) rfl rfl (fun _ _ _ => trivial)) rfl rfl hl.1 rfl (lv_room (Nat.le_of_ble_eq_true rfl)) d_M_clear_4 ⟨Nat.le_of_ble_eq_true rfl, Nat.le_of_ble_eq_true rfl⟩) ?_
  refine W.eq (g2 := F0 m 7 ls [.int (nI 1), .ref (ad 0)]) rfl ?_
  refine lv_if_eq (tgt := 37) hx hb d_M_clear_7 (by decide) (fun c1 => ?_) (fun c1 => ?_)
  · exact absurd c1 (by decide)
  · refine lv_aload_n hx hb d_M_clear_10 rfl (lv_at hl 0 rfl) ?_
    refine lv_iload_n hx hb d_M_clear_11 rfl (lv_at hl 2 rfl) ?_
    refine lv_iconst (v := nI 2) hx hb d_M_clear_12 (by decide) ?_
    refine ro_call (va_runV (As := [.int b, .int (nI 2)]) (rest := [.ref (ad 0)]) ⟨hx, hb, hml, hown, hts⟩ (m_is_n l dC dI ad cI cJ cd n tc ki ra po se bc bs op pr pe pm b (nI 2) hn hno) (cwV 2 hts (wAll_v kw_333 kw_335 ks_11 kw_2 kw_336) rfl rfl rfl (by decide +kernel) ⟨Nat.le_of_ble_eq_true rfl, Nat.le_of_ble_eq_true rfl⟩) (ro_preV bl_tt hK hP (ci := 1) (q0 := 0) rfl rfl (fun _ _ _ => trivial)) rfl rfl hl.1 rfl (lv_room (Nat.le_of_ble_eq_true rfl)) d_M_clear_13 ⟨Nat.le_of_ble_eq_true rfl, Nat.le_of_ble_eq_true rfl⟩) ?_
    refine W.eq (g2 := F0 m 16 ls [.int (nI 0), .ref (ad 0)]) rfl ?_
    refine lv_if_eq (tgt := 37) hx hb d_M_clear_16 (by decide) (fun c2 => ?_) (fun c2 => ?_)
    · refine lv_iconst (v := nI 0) hx hb d_M_clear_37 (by decide) ?_
      refine mu_calli (va_runV (As := [.int (nI 0)]) (rest := []) ⟨hx, hb, hml, hown, hts⟩ (m_goes_n l dC dI ad cI cJ cd n tc ki ra po se bc bs op pr pe pm _ ) (cwV 1 hts (wAll_v kw_338 kw_340 ks_12 kw_2 kw_341) rfl rfl rfl (by decide +kernel) ⟨Nat.le_of_ble_eq_true rfl, Nat.le_of_ble_eq_true rfl⟩) (mu_preV hK hP hD (ci := 1) (q0 := 0) rfl rfl) rfl rfl hl.1 rfl (lv_room (Nat.le_of_ble_eq_true rfl)) d_M_clear_38 ⟨Nat.le_of_ble_eq_true rfl, Nat.le_of_ble_eq_true rfl⟩) hD hS hA (fun r H locs hq hP hD hS => ?_)
      obtain rfl := hq
      have hP : va_P (dC, dI) vwCl (md_w ad cI cJ 1 n tc ki ra po se bc bs op pr pe pm) H := hP
      have hD : va_D A (md_w ad cI cJ 1 n tc ki ra po se bc bs op pr pe pm) := hD
      refine lv_if_ne (tgt := 46) hx hb d_M_clear_41 (by decide) (fun c3 => ?_) (fun c3 => ?_)
      · exact absurd rfl c3
      · refine lv_lconst (v := 0) hx hb d_M_clear_44 (by decide) ?_
        exact W.lret (v := 0) hx hb hr (fun t ht hW => ⟨⟨0, (), rfl, rfl, by rw [ht]; exact hP, va_K.moved hW.alike hK, hD⟩, hS.F ht⟩) hS.2.2 d_M_clear_45
    · exact absurd rfl c2
set_option maxHeartbeats 4000000 in
set_option maxRecDepth 100000 in
theorem m_clear_tx (l : Launch) (dC : Nat → ClassId) (dI : Nat → Nat → Nat) (ad : Nat → Nat) (cI cJ : ClassId) (cd n tc : Nat) (ki ra : Nat → Int32) (po se : Nat → Int64) (bc : Nat → Int32) (bs op : Nat → Int64) (pr pe : Nat → Int32) (pm : Nat → Int64) (sz : Nat) (i j : Nat) (x : Int64) (h0i : 0 < i) (h0j : 0 < j) (hji : i < n) (hjj : j < n) (hn : n ≤ 15) (hki : ki i = nI 1) (hkj : ki j = nI 2) (hno : ¬ (¬ x < 1 ∧ ¬ 1000000000000 < x)) : Met l y_M_clear (.code y_M_clear b_M_clear 11 (some .long) :: wAll) ({ frames := 1, cells := 0, slots := 0, locals := 22 } : Room) (mu_P [.ref (ad 0), .int (nI i), .int (nI j), .long x] (dC, dI) vwCl [(cI, .int), (cJ, .long)] (md_w ad cI cJ cd n tc ki ra po se bc bs op pr pe pm) sz) (va_Ql (fun (z : Int64) (_ : Unit) => z = 0) (mu_B (dC, dI) vwCl [(cI, .int), (cJ, .long)] (va_A (md_w ad cI cJ cd n tc ki ra po se bc bs op pr pe pm) sz) (md_w ad cI cJ 1 n tc ki ra po se bc bs op pr pe pm)) (va_A (md_w ad cI cJ cd n tc ki ra po se bc bs op pr pe pm) sz)) 0 0 (va_A (md_w ad cI cJ cd n tc ki ra po se bc bs op pr pe pm) sz) := by
  refine Met.ofW (cc := b_M_clear) (maxL := 11) (ret := (some .long)) (by decide) rfl ?_
  intro p e s m args below meth c s₁ B hml hv
  obtain ⟨rfl, hsz, hP, hK, hD0⟩ := hv
  have hx := B.exec
  have hb := B.bytes
  have hr := B.returns
  have hts0 := atoms_spec (ws := (.code y_M_clear b_M_clear 11 (some .long) :: wAll)) B.pre
  have hts := hts_all hts0
  have hown : s.vm.findClass "ClearingBooksModel" = some m.cls := findClass_of_methodNamed B.named
  have hlocks := B.notSynchronized
  subst hsz
  have hD := hD0.self (sz := s.heap.size)
  generalize hAe : va_A (md_w ad cI cJ cd n tc ki ra po se bc bs op pr pe pm) s.heap.size = A at hD ⊢
  have hA : ∀ q : Nat, s.heap.size ≤ q → A q := fun q h => by rw [← hAe]; exact Or.inr h
  have hS : va_S A s.heap s.heap [] := va_S.rf
  have hl := lv_entry ([.ref (ad 0), .int (nI i), .int (nI j), .long x]) (n := 11) (Nat.le_of_ble_eq_true rfl)
  rw [lg_entry_eq]
  generalize (lg_sl ([.ref (ad 0), .int (nI i), .int (nI j), .long x]) ++ List.replicate (11 - (lg_sl ([.ref (ad 0), .int (nI i), .int (nI j), .long x])).length) Slot.unset).toArray = ls at hl ⊢
  have hl : lv_has ls 11 [(0, .ref (ad 0)), (1, .int (nI i)), (2, .int (nI j)), (3, .long x)] := hl
  refine lv_aload_n hx hb d_M_clear_0 rfl (lv_at hl 0 rfl) ?_
  refine lv_aload_n hx hb d_M_clear_1 rfl (lv_at hl 0 rfl) ?_
  refine lv_iload_n hx hb d_M_clear_2 rfl (lv_at hl 1 rfl) ?_
  refine lv_iconst (v := nI 1) hx hb d_M_clear_3 (by decide) ?_
  refine ro_call (va_runV (As := [.int (nI i), .int (nI 1)]) (rest := [.ref (ad 0)]) ⟨hx, hb, hml, hown, hts⟩ (m_is_y l dC dI ad cI cJ cd n tc ki ra po se bc bs op pr pe pm i (nI 1) h0i hji hn hki) (cwV 2 hts (wAll_v kw_333 kw_335 ks_11 kw_2 kw_336) rfl rfl rfl (by decide +kernel) ⟨Nat.le_of_ble_eq_true rfl, Nat.le_of_ble_eq_true rfl⟩) (ro_preV bl_tt hK hP (ci := 1) (q0 := 0) rfl rfl (fun _ _ _ => trivial)) rfl rfl hl.1 rfl (lv_room (Nat.le_of_ble_eq_true rfl)) d_M_clear_4 ⟨Nat.le_of_ble_eq_true rfl, Nat.le_of_ble_eq_true rfl⟩) ?_
  refine W.eq (g2 := F0 m 7 ls [.int (nI 1), .ref (ad 0)]) rfl ?_
  refine lv_if_eq (tgt := 37) hx hb d_M_clear_7 (by decide) (fun c1 => ?_) (fun c1 => ?_)
  · exact absurd c1 (by decide)
  · refine lv_aload_n hx hb d_M_clear_10 rfl (lv_at hl 0 rfl) ?_
    refine lv_iload_n hx hb d_M_clear_11 rfl (lv_at hl 2 rfl) ?_
    refine lv_iconst (v := nI 2) hx hb d_M_clear_12 (by decide) ?_
    refine ro_call (va_runV (As := [.int (nI j), .int (nI 2)]) (rest := [.ref (ad 0)]) ⟨hx, hb, hml, hown, hts⟩ (m_is_y l dC dI ad cI cJ cd n tc ki ra po se bc bs op pr pe pm j (nI 2) h0j hjj hn hkj) (cwV 2 hts (wAll_v kw_333 kw_335 ks_11 kw_2 kw_336) rfl rfl rfl (by decide +kernel) ⟨Nat.le_of_ble_eq_true rfl, Nat.le_of_ble_eq_true rfl⟩) (ro_preV bl_tt hK hP (ci := 1) (q0 := 0) rfl rfl (fun _ _ _ => trivial)) rfl rfl hl.1 rfl (lv_room (Nat.le_of_ble_eq_true rfl)) d_M_clear_13 ⟨Nat.le_of_ble_eq_true rfl, Nat.le_of_ble_eq_true rfl⟩) ?_
    refine W.eq (g2 := F0 m 16 ls [.int (nI 1), .ref (ad 0)]) rfl ?_
    refine lv_if_eq (tgt := 37) hx hb d_M_clear_16 (by decide) (fun c2 => ?_) (fun c2 => ?_)
    · exact absurd c2 (by decide)
    · refine lv_lload_n hx hb d_M_clear_19 rfl (lv_at hl 3 rfl) ?_
      refine lv_lconst (v := 1) hx hb d_M_clear_20 (by decide) ?_
      refine W.lcmp hx hb d_M_clear_21 ?_
      refine lv_if_lt (tgt := 37) hx hb d_M_clear_22 (by decide) (fun c3 => ?_) (fun c3 => ?_)
      · replace c3 := (lg_cmp_lt _ _).mp c3
        refine lv_iconst (v := nI 0) hx hb d_M_clear_37 (by decide) ?_
        refine mu_calli (va_runV (As := [.int (nI 0)]) (rest := []) ⟨hx, hb, hml, hown, hts⟩ (m_goes_n l dC dI ad cI cJ cd n tc ki ra po se bc bs op pr pe pm _ ) (cwV 1 hts (wAll_v kw_338 kw_340 ks_12 kw_2 kw_341) rfl rfl rfl (by decide +kernel) ⟨Nat.le_of_ble_eq_true rfl, Nat.le_of_ble_eq_true rfl⟩) (mu_preV hK hP hD (ci := 1) (q0 := 0) rfl rfl) rfl rfl hl.1 rfl (lv_room (Nat.le_of_ble_eq_true rfl)) d_M_clear_38 ⟨Nat.le_of_ble_eq_true rfl, Nat.le_of_ble_eq_true rfl⟩) hD hS hA (fun r H locs hq hP hD hS => ?_)
        obtain rfl := hq
        have hP : va_P (dC, dI) vwCl (md_w ad cI cJ 1 n tc ki ra po se bc bs op pr pe pm) H := hP
        have hD : va_D A (md_w ad cI cJ 1 n tc ki ra po se bc bs op pr pe pm) := hD
        refine lv_if_ne (tgt := 46) hx hb d_M_clear_41 (by decide) (fun c4 => ?_) (fun c4 => ?_)
        · exact absurd rfl c4
        · refine lv_lconst (v := 0) hx hb d_M_clear_44 (by decide) ?_
          exact W.lret (v := 0) hx hb hr (fun t ht hW => ⟨⟨0, (), rfl, rfl, by rw [ht]; exact hP, va_K.moved hW.alike hK, hD⟩, hS.F ht⟩) hS.2.2 d_M_clear_45
      · replace c3 := mt (lg_cmp_lt _ _).mpr c3
        refine lv_lload_n hx hb d_M_clear_25 rfl (lv_at hl 3 rfl) ?_
        refine lv_ldc2 (v := 1000000000000) hx hb hown (hts _ kw_337) d_M_clear_26 ?_
        refine W.lcmp hx hb d_M_clear_29 ?_
        refine lv_if_gt (tgt := 37) hx hb d_M_clear_30 (by decide) (fun c5 => ?_) (fun c5 => ?_)
        · replace c5 := (lg_cmp_gt _ _).mp c5
          refine lv_iconst (v := nI 0) hx hb d_M_clear_37 (by decide) ?_
          refine mu_calli (va_runV (As := [.int (nI 0)]) (rest := []) ⟨hx, hb, hml, hown, hts⟩ (m_goes_n l dC dI ad cI cJ cd n tc ki ra po se bc bs op pr pe pm _ ) (cwV 1 hts (wAll_v kw_338 kw_340 ks_12 kw_2 kw_341) rfl rfl rfl (by decide +kernel) ⟨Nat.le_of_ble_eq_true rfl, Nat.le_of_ble_eq_true rfl⟩) (mu_preV hK hP hD (ci := 1) (q0 := 0) rfl rfl) rfl rfl hl.1 rfl (lv_room (Nat.le_of_ble_eq_true rfl)) d_M_clear_38 ⟨Nat.le_of_ble_eq_true rfl, Nat.le_of_ble_eq_true rfl⟩) hD hS hA (fun r H locs hq hP hD hS => ?_)
          obtain rfl := hq
          have hP : va_P (dC, dI) vwCl (md_w ad cI cJ 1 n tc ki ra po se bc bs op pr pe pm) H := hP
          have hD : va_D A (md_w ad cI cJ 1 n tc ki ra po se bc bs op pr pe pm) := hD
          refine lv_if_ne (tgt := 46) hx hb d_M_clear_41 (by decide) (fun c6 => ?_) (fun c6 => ?_)
          · exact absurd rfl c6
          · refine lv_lconst (v := 0) hx hb d_M_clear_44 (by decide) ?_
            exact W.lret (v := 0) hx hb hr (fun t ht hW => ⟨⟨0, (), rfl, rfl, by rw [ht]; exact hP, va_K.moved hW.alike hK, hD⟩, hS.F ht⟩) hS.2.2 d_M_clear_45
        · replace c5 := mt (lg_cmp_gt _ _).mpr c5
          exact absurd ⟨c3, c5⟩ hno
