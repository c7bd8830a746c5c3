set_option maxHeartbeats 4000000 in
set_option maxRecDepth 100000 in
theorem m_back_y (l : Launch) (dC : Nat → ClassId) (dI : Nat → Nat → Nat) (ad : Nat → Nat) (cI cJ : ClassId) (cd n tc : Nat) (ki ra : Nat → Int32) (po se : Nat → Int64) (bc : Nat → Int32) (bs op : Nat → Int64) (pr pe : Nat → Int32) (pm : Nat → Int64) (sz : Nat) (i j : Nat) (x : Int64) (h0i : 0 < i) (h0j : 0 < j) (hji : i < n) (hjj : j < n) (hn : n ≤ 15) (hki : ki i = nI 1) (hkj : ki j = nI 2) (h1 : ¬ x < (-1000000000000)) (h2 : ¬ 1000000000000 < x) : Met l y_M_back (.code y_M_back b_M_back 5 (some .long) :: wAll) ({ frames := 1, cells := 0, slots := 0, locals := 22 } : Room) (mu_P [.ref (ad 0), .int (nI i), .int (nI j), .long x] (dC, dI) vwCl [(cI, .int), (cJ, .long)] (md_w ad cI cJ cd n tc ki ra po se bc bs op pr pe pm) sz) (va_Ql (fun (z : Int64) (_ : Unit) => z = po_bk po i j x i) (mu_B (dC, dI) vwCl [(cI, .int), (cJ, .long)] (va_A (md_w ad cI cJ cd n tc ki ra po se bc bs op pr pe pm) sz) (md_w ad cI cJ 0 n tc ki ra (po_bk po i j x) se bc bs op pr pe pm)) (va_A (md_w ad cI cJ cd n tc ki ra po se bc bs op pr pe pm) sz)) 0 0 (va_A (md_w ad cI cJ cd n tc ki ra po se bc bs op pr pe pm) sz) := by
  refine Met.ofW (cc := b_M_back) (maxL := 5) (ret := (some .long)) (by decide) rfl ?_
  intro p e s m args below meth c s₁ B hml hv
  obtain ⟨rfl, hsz, hP, hK, hD0⟩ := hv
  have hx := B.exec
  have hb := B.bytes
  have hr := B.returns
  have hts0 := atoms_spec (ws := (.code y_M_back b_M_back 5 (some .long) :: wAll)) B.pre
  have hts := hts_all hts0
  have hown : s.vm.findClass "ClearingBooksModel" = some m.cls := findClass_of_methodNamed B.named
  have hlocks := B.notSynchronized
  subst hsz
  have hD := hD0.self (sz := s.heap.size)
  generalize hAe : va_A (md_w ad cI cJ cd n tc ki ra po se bc bs op pr pe pm) s.heap.size = A at hD ⊢
  have hA : ∀ q : Nat, s.heap.size ≤ q → A q := fun q h => by rw [← hAe]; exact Or.inr h
  have hS : va_S A s.heap s.heap [] := va_S.rf
  have hl := lv_entry ([.ref (ad 0), .int (nI i), .int (nI j), .long x]) (n := 5) (Nat.le_of_ble_eq_true rfl)
  rw [lg_entry_eq]
  generalize (lg_sl ([.ref (ad 0), .int (nI i), .int (nI j), .long x]) ++ List.replicate (5 - (lg_sl ([.ref (ad 0), .int (nI i), .int (nI j), .long x])).length) Slot.unset).toArray = ls at hl ⊢
  have hl : lv_has ls 5 [(0, .ref (ad 0)), (1, .int (nI i)), (2, .int (nI j)), (3, .long x)] := hl
  refine lv_aload_n hx hb d_M_back_0 rfl (lv_at hl 0 rfl) ?_
  refine lv_aload_n hx hb d_M_back_1 rfl (lv_at hl 0 rfl) ?_
  refine lv_iload_n hx hb d_M_back_2 rfl (lv_at hl 1 rfl) ?_
  refine lv_iconst (v := nI 1) hx hb d_M_back_3 (by decide) ?_
  refine ro_call (va_runV (As := [.int (nI i), .int (nI 1)]) (rest := [.ref (ad 0)]) ⟨hx, hb, hml, hown, hts⟩ (m_is_y l dC dI ad cI cJ cd n tc ki ra po se bc bs op pr pe pm i (nI 1) h0i hji hn hki) (cwV 2 hts (wAll_v kw_333 kw_335 ks_11 kw_2 kw_336) rfl rfl rfl (by decide +kernel) ⟨Nat.le_of_ble_eq_true rfl, Nat.le_of_ble_eq_true rfl⟩) (ro_preV bl_tt hK hP (ci := 1) (q0 := 0) rfl rfl (fun _ _ _ => trivial)) rfl rfl hl.1 rfl (lv_room (Nat.le_of_ble_eq_true rfl)) d_M_back_4 ⟨Nat.le_of_ble_eq_true rfl, Nat.le_of_ble_eq_true rfl⟩) ?_
  refine W.eq (g2 := F0 m 7 ls [.int (nI 1), .ref (ad 0)]) rfl ?_
  refine lv_if_eq (tgt := 39) hx hb d_M_back_7 (by decide) (fun c1 => ?_) (fun c1 => ?_)
  · exact absurd c1 (by decide)
  · refine lv_aload_n hx hb d_M_back_10 rfl (lv_at hl 0 rfl) ?_
    refine lv_iload_n hx hb d_M_back_11 rfl (lv_at hl 2 rfl) ?_
    refine lv_iconst (v := nI 2) hx hb d_M_back_12 (by decide) ?_
    refine ro_call (va_runV (As := [.int (nI j), .int (nI 2)]) (rest := [.ref (ad 0)]) ⟨hx, hb, hml, hown, hts⟩ (m_is_y l dC dI ad cI cJ cd n tc ki ra po se bc bs op pr pe pm j (nI 2) h0j hjj hn hkj) (cwV 2 hts (wAll_v kw_333 kw_335 ks_11 kw_2 kw_336) rfl rfl rfl (by decide +kernel) ⟨Nat.le_of_ble_eq_true rfl, Nat.le_of_ble_eq_true rfl⟩) (ro_preV bl_tt hK hP (ci := 1) (q0 := 0) rfl rfl (fun _ _ _ => trivial)) rfl rfl hl.1 rfl (lv_room (Nat.le_of_ble_eq_true rfl)) d_M_back_13 ⟨Nat.le_of_ble_eq_true rfl, Nat.le_of_ble_eq_true rfl⟩) ?_
    refine W.eq (g2 := F0 m 16 ls [.int (nI 1), .ref (ad 0)]) rfl ?_
    refine lv_if_eq (tgt := 39) hx hb d_M_back_16 (by decide) (fun c2 => ?_) (fun c2 => ?_)
    · exact absurd c2 (by decide)
    · refine lv_lload_n hx hb d_M_back_19 rfl (lv_at hl 3 rfl) ?_
      refine lv_ldc2 (v := (-1000000000000)) hx hb hown (hts _ kw_347) d_M_back_20 ?_
      refine W.lcmp hx hb d_M_back_23 ?_
      refine lv_if_lt (tgt := 39) hx hb d_M_back_24 (by decide) (fun c3 => ?_) (fun c3 => ?_)
      · replace c3 := (lg_cmp_lt _ _).mp c3
        exact absurd c3 h1
      · replace c3 := mt (lg_cmp_lt _ _).mpr c3
        refine lv_lload_n hx hb d_M_back_27 rfl (lv_at hl 3 rfl) ?_
        refine lv_ldc2 (v := 1000000000000) hx hb hown (hts _ kw_337) d_M_back_28 ?_
        refine W.lcmp hx hb d_M_back_31 ?_
        refine lv_if_gt (tgt := 39) hx hb d_M_back_32 (by decide) (fun c4 => ?_) (fun c4 => ?_)
        · replace c4 := (lg_cmp_gt _ _).mp c4
          exact absurd c4 h2
        · replace c4 := mt (lg_cmp_gt _ _).mpr c4
          refine lv_iconst (v := nI 1) hx hb d_M_back_35 (by decide) ?_
          refine lv_goto (tgt := 40) hx hb d_M_back_36 (by decide) ?_
          refine mu_calli (va_runV (As := [.int (nI 1)]) (rest := []) ⟨hx, hb, hml, hown, hts⟩ (m_goes_y l dC dI ad cI cJ cd n tc ki ra po se bc bs op pr pe pm _ ) (cwV 1 hts (wAll_v kw_338 kw_340 ks_12 kw_2 kw_341) rfl rfl rfl (by decide +kernel) ⟨Nat.le_of_ble_eq_true rfl, Nat.le_of_ble_eq_true rfl⟩) (mu_preV hK hP hD (ci := 1) (q0 := 0) rfl rfl) rfl rfl hl.1 rfl (lv_room (Nat.le_of_ble_eq_true rfl)) d_M_back_40 ⟨Nat.le_of_ble_eq_true rfl, Nat.le_of_ble_eq_true rfl⟩) hD hS hA (fun r H locs hq hP hD hS => ?_)
          obtain rfl := hq
          have hP : va_P (dC, dI) vwCl (md_w ad cI cJ 0 n tc ki ra po se bc bs op pr pe pm) H := hP
          have hD : va_D A (md_w ad cI cJ 0 n tc ki ra po se bc bs op pr pe pm) := hD
          refine lv_if_ne (tgt := 48) hx hb d_M_back_43 (by decide) (fun c5 => ?_) (fun c5 => ?_)
          · refine lv_aload_n hx hb d_M_back_48 rfl (lv_at hl 0 rfl) ?_
            refine va_get (D := (dC, dI)) (ci := 1) (v := .ref (ad 3)) (C := "ClearingBooksModel") (T := T_M) (N := 13) hx hb hts wi_M hown hK hP 0 rfl rfl 4 (by decide) (hts _ kw_277) (fun _ h9 => h9) rfl d_M_back_49 ?_
            refine lv_iload_n hx hb d_M_back_52 rfl (lv_at hl 1 rfl) ?_
            refine lv_dup2_11 hx hb d_M_back_53 rfl rfl ?_
            refine xa_laload (f := po) hx hb hK hP 3 1 rfl rfl (j := i) (by omega) (by decide) d_M_back_54 ?_
            refine lv_lload_n hx hb d_M_back_55 rfl (lv_at hl 3 rfl) ?_
            refine lv_lsub hx hb d_M_back_56 ?_
            refine xa_lastore (f := po) (x := (po i) - x) hx hb hK hP hD hS 3 1 rfl rfl (j := i) (by omega) (by decide) d_M_back_57 (fun H locs hP hD hS => ?_)
            have hP : va_P (dC, dI) vwCl (md_w ad cI cJ 0 n tc ki ra (vp_updL po i ((po i) - x)) se bc bs op pr pe pm) H := hP
            have hD : va_D A (md_w ad cI cJ 0 n tc ki ra (vp_updL po i ((po i) - x)) se bc bs op pr pe pm) := hD
            refine lv_aload_n hx hb d_M_back_58 rfl (lv_at hl 0 rfl) ?_
            refine va_get (D := (dC, dI)) (ci := 1) (v := .ref (ad 3)) (C := "ClearingBooksModel") (T := T_M) (N := 13) hx hb hts wi_M hown hK hP 0 rfl rfl 4 (by decide) (hts _ kw_277) (fun _ h9 => h9) rfl d_M_back_59 ?_
            refine lv_iload_n hx hb d_M_back_62 rfl (lv_at hl 2 rfl) ?_
            refine lv_dup2_11 hx hb d_M_back_63 rfl rfl ?_
            refine xa_laload (f := vp_updL po i ((po i) - x)) hx hb hK hP 3 1 rfl rfl (j := j) (by omega) (by decide) d_M_back_64 ?_
            refine lv_lload_n hx hb d_M_back_65 rfl (lv_at hl 3 rfl) ?_
            refine lv_ladd hx hb d_M_back_66 ?_
            refine xa_lastore (f := vp_updL po i ((po i) - x)) (x := ((vp_updL po i ((po i) - x)) j) + x) hx hb hK hP hD hS 3 1 rfl rfl (j := j) (by omega) (by decide) d_M_back_67 (fun H locs hP hD hS => ?_)
            have hP : va_P (dC, dI) vwCl (md_w ad cI cJ 0 n tc ki ra (vp_updL (vp_updL po i ((po i) - x)) j (((vp_updL po i ((po i) - x)) j) + x)) se bc bs op pr pe pm) H := hP
            have hD : va_D A (md_w ad cI cJ 0 n tc ki ra (vp_updL (vp_updL po i ((po i) - x)) j (((vp_updL po i ((po i) - x)) j) + x)) se bc bs op pr pe pm) := hD
            refine lv_aload_n hx hb d_M_back_68 rfl (lv_at hl 0 rfl) ?_
            refine va_get (D := (dC, dI)) (ci := 1) (v := .ref (ad 3)) (C := "ClearingBooksModel") (T := T_M) (N := 13) hx hb hts wi_M hown hK hP 0 rfl rfl 4 (by decide) (hts _ kw_277) (fun _ h9 => h9) rfl d_M_back_69 ?_
            refine lv_iload_n hx hb d_M_back_72 rfl (lv_at hl 1 rfl) ?_
            refine xa_laload (f := vp_updL (vp_updL po i ((po i) - x)) j (((vp_updL po i ((po i) - x)) j) + x)) hx hb hK hP 3 1 rfl rfl (j := i) (by omega) (by decide) d_M_back_73 ?_
            exact W.lret (v := (vp_updL (vp_updL po i ((po i) - x)) j (((vp_updL po i ((po i) - x)) j) + x)) i) hx hb hr (fun t ht hW => ⟨⟨(vp_updL (vp_updL po i ((po i) - x)) j (((vp_updL po i ((po i) - x)) j) + x)) i, (), rfl, rfl, by rw [ht]; exact hP, va_K.moved hW.alike hK, hD⟩, hS.F ht⟩) hS.2.2 d_M_back_74
          · exact absurd c5 (by decide)
set_option maxHeartbeats 4000000 in
set_option maxRecDepth 100000 in
theorem m_back_ta (l : Launch) (dC : Nat → ClassId) (dI : Nat → Nat → Nat) (ad : Nat → Nat) (cI cJ : ClassId) (cd n tc : Nat) (ki ra : Nat → Int32) (po se : Nat → Int64) (bc : Nat → Int32) (bs op : Nat → Int64) (pr pe : Nat → Int32) (pm : Nat → Int64) (sz : Nat) (a b : Int32) (x : Int64) (hn : n ≤ 15) (hno : ¬ is_k n ki a (nI 1)) : Met l y_M_back (.code y_M_back b_M_back 5 (some .long) :: wAll) ({ frames := 1, cells := 0, slots := 0, locals := 22 } : Room) (mu_P [.ref (ad 0), .int a, .int b, .long x] (dC, dI) vwCl [(cI, .int), (cJ, .long)] (md_w ad cI cJ cd n tc ki ra po se bc bs op pr pe pm) sz) (va_Ql (fun (z : Int64) (_ : Unit) => z = 0) (mu_B (dC, dI) vwCl [(cI, .int), (cJ, .long)] (va_A (md_w ad cI cJ cd n tc ki ra po se bc bs op pr pe pm) sz) (md_w ad cI cJ 1 n tc ki ra po se bc bs op pr pe pm)) (va_A (md_w ad cI cJ cd n tc ki ra po se bc bs op pr pe pm) sz)) 0 0 (va_A (md_w ad cI cJ cd n tc ki ra po se bc bs op pr pe pm) sz) := by
  refine Met.ofW (cc := b_M_back) (maxL := 5) (ret := (some .long)) (by decide) rfl ?_
  intro p e s m args below meth c s₁ B hml hv
  obtain ⟨rfl, hsz, hP, hK, hD0⟩ := hv
  have hx := B.exec
  have hb := B.bytes
  have hr := B.returns
  have hts0 := atoms_spec (ws := (.code y_M_back b_M_back 5 (some .long) :: wAll)) B.pre
  have hts := hts_all hts0
  have hown : s.vm.findClass "ClearingBooksModel" = some m.cls := findClass_of_methodNamed B.named
  have hlocks := B.notSynchronized
  subst hsz
  have hD := hD0.self (sz := s.heap.size)
  generalize hAe : va_A (md_w ad cI cJ cd n tc ki ra po se bc bs op pr pe pm) s.heap.size = A at hD ⊢
  have hA : ∀ q : Nat, s.heap.size ≤ q → A q := fun q h => by rw [← hAe]; exact Or.inr h
  have hS : va_S A s.heap s.heap [] := va_S.rf
  have hl := lv_entry ([.ref (ad 0), .int a, .int b, .long x]) (n := 5) (Nat.le_of_ble_eq_true rfl)
  rw [lg_entry_eq]
  generalize (lg_sl ([.ref (ad 0), .int a, .int b, .long x]) ++ List.replicate (5 - (lg_sl ([.ref (ad 0), .int a, .int b, .long x])).length) Slot.unset).toArray = ls at hl ⊢
  have hl : lv_has ls 5 [(0, .ref (ad 0)), (1, .int a), (2, .int b), (3, .long x)] := hl
  refine lv_aload_n hx hb d_M_back_0 rfl (lv_at hl 0 rfl) ?_
  refine lv_aload_n hx hb d_M_back_1 rfl (lv_at hl 0 rfl) ?_
  refine lv_iload_n hx hb d_M_back_2 rfl (lv_at hl 1 rfl) ?_
  refine lv_iconst (v := nI 1) hx hb d_M_back_3 (by decide) ?_
  refine ro_call (va_runV (As := [.int a, .int (nI 1)]) (rest := [.ref (ad 0)]) ⟨hx, hb, hml, hown, hts⟩ (m_is_n l dC dI ad cI cJ cd n tc ki ra po se bc bs op pr pe pm a (nI 1) hn hno) (cwV 2 hts (wAll_v kw_333 kw_335 ks_11 kw_2 kw_336) rfl rfl rfl (by decide +kernel) ⟨Nat.le_of_ble_eq_true rfl, Nat.le_of_ble_eq_true rfl⟩) (ro_preV bl_tt hK hP (ci := 1) (q0 := 0) rfl rfl (fun _ _ _ => trivial)) rfl rfl hl.1 rfl (lv_room (Nat.le_of_ble_eq_true rfl)) d_M_back_4 ⟨Nat.le_of_ble_eq_true rfl, Nat.le_of_ble_eq_true rfl⟩) ?_
  refine W.eq (g2 := F0 m 7 ls [.int (nI 0), .ref (ad 0)]) rfl ?_
  refine lv_if_eq (tgt := 39) hx hb d_M_back_7 (by decide) (fun c1 => ?_) (fun c1 => ?_)
  · refine lv_iconst (v := nI 0) hx hb d_M_back_39 (by decide) ?_
    refine mu_calli (va_runV (As := [.int (nI 0)]) (rest := []) ⟨hx, hb, hml, hown, hts⟩ (m_goes_n l dC dI ad cI cJ cd n tc ki ra po se bc bs op pr pe pm _ ) (cwV 1 hts (wAll_v kw_338 kw_340 ks_12 kw_2 kw_341) rfl rfl rfl (by decide +kernel) ⟨Nat.le_of_ble_eq_true rfl, Nat.le_of_ble_eq_true rfl⟩) (mu_preV hK hP hD (ci := 1) (q0 := 0) rfl rfl) rfl rfl hl.1 rfl (lv_room (Nat.le_of_ble_eq_true rfl)) d_M_back_40 ⟨Nat.le_of_ble_eq_true rfl, Nat.le_of_ble_eq_true rfl⟩) hD hS hA (fun r H locs hq hP hD hS => ?_)
    obtain rfl := hq
    have hP : va_P (dC, dI) vwCl (md_w ad cI cJ 1 n tc ki ra po se bc bs op pr pe pm) H := hP
    have hD : va_D A (md_w ad cI cJ 1 n tc ki ra po se bc bs op pr pe pm) := hD
    refine lv_if_ne (tgt := 48) hx hb d_M_back_43 (by decide) (fun c2 => ?_) (fun c2 => ?_)
    · exact absurd rfl c2
    · refine lv_lconst (v := 0) hx hb d_M_back_46 (by decide) ?_
      exact W.lret (v := 0) hx hb hr (fun t ht hW => ⟨⟨0, (), rfl, rfl, by rw [ht]; exact hP, va_K.moved hW.alike hK, hD⟩, hS.F ht⟩) hS.2.2 d_M_back_47
  · exact absurd rfl c1
set_option maxHeartbeats 4000000 in
set_option maxRecDepth 100000 in
theorem m_back_tb (l : Launch) (dC : Nat → ClassId) (dI : Nat → Nat → Nat) (ad : Nat → Nat) (cI cJ : ClassId) (cd n tc : Nat) (ki ra : Nat → Int32) (po se : Nat → Int64) (bc : Nat → Int32) (bs op : Nat → Int64) (pr pe : Nat → Int32) (pm : Nat → Int64) (sz : Nat) (i : Nat) (b : Int32) (x : Int64) (h0i : 0 < i) (hji : i < n) (hn : n ≤ 15) (hki : ki i = nI 1) (hno : ¬ is_k n ki b (nI 2)) : Met l y_M_back (.code y_M_back b_M_back 5 (some .long) :: wAll) ({ frames := 1, cells := 0, slots := 0, locals := 22 } : Room) (mu_P [.ref (ad 0), .int (nI i), .int b, .long x] (dC, dI) vwCl [(cI, .int), (cJ, .long)] (md_w ad cI cJ cd n tc ki ra po se bc bs op pr pe pm) sz) (va_Ql (fun (z : Int64) (_ : Unit) => z = 0) (mu_B (dC, dI) vwCl [(cI, .int), (cJ, .long)] (va_A (md_w ad cI cJ cd n tc ki ra po se bc bs op pr pe pm) sz) (md_w ad cI cJ 1 n tc ki ra po se bc bs op pr pe pm)) (va_A (md_w ad cI cJ cd n tc ki ra po se bc bs op pr pe pm) sz)) 0 0 (va_A (md_w ad cI cJ cd n tc ki ra po se bc bs op pr pe pm) sz) := by
  refine Met.ofW (cc := b_M_back) (maxL := 5) (ret := (some .long)) (by decide) rfl ?_
  intro p e s m args below meth c s₁ B hml hv
  obtain ⟨rfl, hsz, hP, hK, hD0⟩ := hv
  have hx := B.exec
  have hb := B.bytes
  have hr := B.returns
  have hts0 := atoms_spec (ws := (.code y_M_back b_M_back 5 (some .long) :: wAll)) B.pre
  have hts := hts_all hts0
  have hown : s.vm.findClass "ClearingBooksModel" = some m.cls := findClass_of_methodNamed B.named
  have hlocks := B.notSynchronized
  subst hsz
  have hD := hD0.self (sz := s.heap.size)
  generalize hAe : va_A (md_w ad cI cJ cd n tc ki ra po se bc bs op pr pe pm) s.heap.size = A at hD ⊢
  have hA : ∀ q : Nat, s.heap.size ≤ q → A q := fun q h => by rw [← hAe]; exact Or.inr h
  have hS : va_S A s.heap s.heap [] := va_S.rf
  have hl := lv_entry ([.ref (ad 0), .int (nI i), .int b, .long x]) (n := 5) (Nat.le_of_ble_eq_true rfl)
  rw [lg_entry_eq]
  generalize (lg_sl ([.ref (ad 0), .int (nI i), .int b, .long x]) ++ List.replicate (5 - (lg_sl ([.ref (ad 0), .int (nI i), .int b, .long x])).length) Slot.unset).toArray = ls at hl ⊢
  have hl : lv_has ls 5 [(0, .ref (ad 0)), (1, .int (nI i)), (2, .int b), (3, .long x)] := hl
  refine lv_aload_n hx hb d_M_back_0 rfl (lv_at hl 0 rfl) ?_
  refine lv_aload_n hx hb d_M_back_1 rfl (lv_at hl 0 rfl) ?_
  refine lv_iload_n hx hb d_M_back_2 rfl (lv_at hl 1 rfl) ?_
  refine lv_iconst (v := nI 1) hx hb d_M_back_3 (by decide) ?_
  refine ro_call (va_runV (As := [.int (nI i), .int (nI 1)]) (rest := [.ref (ad 0)]) ⟨hx, hb, hml, hown, hts⟩ (m_is_y l dC dI ad cI cJ cd n tc ki ra po se bc bs op pr pe pm i (nI 1) h0i hji hn hki) (cwV 2 hts (wAll_v kw_333 kw_335 ks_11 kw_2 kw_336) rfl rfl rfl (by decide +kernel) ⟨Nat.le_of_ble_eq_true rfl, Nat.le_of_ble_eq_true rfl⟩) (ro_preV bl_tt hK hP (ci := 1) (q0 := 0) rfl rfl (fun _ _ _ => trivial)) rfl rfl hl.1 rfl (lv_room (Nat.le_of_ble_eq_true rfl)) d_M_back_4 ⟨Nat.le_of_ble_eq_true rfl, Nat.le_of_ble_eq_true rfl⟩) ?_
  refine W.eq (g2 := F0 m 7 ls [.int (nI 1), .ref (ad 0)]) rfl ?_
  refine lv_if_eq (tgt := 39) hx hb d_M_back_7 (by decide) (fun c1 => ?_) (fun c1 => ?_)
  · exact absurd c1 (by decide)
  · refine lv_aload_n hx hb d_M_back_10 rfl (lv_at hl 0 rfl) ?_
    refine lv_iload_n hx hb d_M_back_11 rfl (lv_at hl 2 rfl) ?_
    refine lv_iconst (v := nI 2) hx hb d_M_back_12 (by decide) ?_
    refine ro_call (va_runV (As := [.int b, .int (nI 2)]) (rest := [.ref (ad 0)]) ⟨hx, hb, hml, hown, hts⟩ (m_is_n l dC dI ad cI cJ cd n tc ki ra po se bc bs op pr pe pm b (nI 2) hn hno) (cwV 2 hts (wAll_v kw_333 kw_335 ks_11 kw_2 kw_336) rfl rfl rfl (by decide +kernel) ⟨Nat.le_of_ble_eq_true rfl, Nat.le_of_ble_eq_true rfl⟩) (ro_preV bl_tt hK hP (ci := 1) (q0 := 0) rfl rfl (fun _ _ _ => trivial)) rfl rfl hl.1 rfl (lv_room (Nat.le_of_ble_eq_true rfl)) d_M_back_13 ⟨Nat.le_of_ble_eq_true rfl, Nat.le_of_ble_eq_true rfl⟩) ?_
    refine W.eq (g2 := F0 m 16 ls [.int (nI 0), .ref (ad 0)]) rfl ?_
    refine lv_if_eq (tgt := 39) hx hb d_M_back_16 (by decide) (fun c2 => ?_) (fun c2 => ?_)
    · refine lv_iconst (v := nI 0) hx hb d_M_back_39 (by decide) ?_
      refine mu_calli (va_runV (As := [.int (nI 0)]) (rest := []) ⟨hx, hb, hml, hown, hts⟩ (m_goes_n l dC dI ad cI cJ cd n tc ki ra po se bc bs op pr pe pm _ ) (cwV 1 hts (wAll_v kw_338 kw_340 ks_12 kw_2 kw_341) rfl rfl rfl (by decide +kernel) ⟨Nat.le_of_ble_eq_true rfl, Nat.le_of_ble_eq_true rfl⟩) (mu_preV hK hP hD (ci := 1) (q0 := 0) rfl rfl) rfl rfl hl.1 rfl (lv_room (Nat.le_of_ble_eq_true rfl)) d_M_back_40 ⟨Nat.le_of_ble_eq_true rfl, Nat.le_of_ble_eq_true rfl⟩) hD hS hA (fun r H locs hq hP hD hS => ?_)
      obtain rfl := hq
      have hP : va_P (dC, dI) vwCl (md_w ad cI cJ 1 n tc ki ra po se bc bs op pr pe pm) H := hP
      have hD : va_D A (md_w ad cI cJ 1 n tc ki ra po se bc bs op pr pe pm) := hD
      refine lv_if_ne (tgt := 48) hx hb d_M_back_43 (by decide) (fun c3 => ?_) (fun c3 => ?_)
      · exact absurd rfl c3
      · refine lv_lconst (v := 0) hx hb d_M_back_46 (by decide) ?_
        exact W.lret (v := 0) hx hb hr (fun t ht hW => ⟨⟨0, (), rfl, rfl, by rw [ht]; exact hP, va_K.moved hW.alike hK, hD⟩, hS.F ht⟩) hS.2.2 d_M_back_47
    · exact absurd rfl c2
set_option maxHeartbeats 4000000 in
set_option maxRecDepth 100000 in
theorem m_back_tx (l : Launch) (dC : Nat → ClassId) (dI : Nat → Nat → Nat) (ad : Nat → Nat) (cI cJ : ClassId) (cd n tc : Nat) (ki ra : Nat → Int32) (po se : Nat → Int64) (bc : Nat → Int32) (bs op : Nat → Int64) (pr pe : Nat → Int32) (pm : Nat → Int64) (sz : Nat) (i j : Nat) (x : Int64) (h0i : 0 < i) (h0j : 0 < j) (hji : i < n) (hjj : j < n) (hn : n ≤ 15) (hki : ki i = nI 1) (hkj : ki j = nI 2) (hno : ¬ (¬ x < (-1000000000000) ∧ ¬ 1000000000000 < x)) : Met l y_M_back (.code y_M_back b_M_back 5 (some .long) :: wAll) ({ frames := 1, cells := 0, slots := 0, locals := 22 } : Room) (mu_P [.ref (ad 0), .int (nI i), .int (nI j), .long x] (dC, dI) vwCl [(cI, .int), (cJ, .long)] (md_w ad cI cJ cd n tc ki ra po se bc bs op pr pe pm) sz) (va_Ql (fun (z : Int64) (_ : Unit) => z = 0) (mu_B (dC, dI) vwCl [(cI, .int), (cJ, .long)] (va_A (md_w ad cI cJ cd n tc ki ra po se bc bs op pr pe pm) sz) (md_w ad cI cJ 1 n tc ki ra po se bc bs op pr pe pm)) (va_A (md_w ad cI cJ cd n tc ki ra po se bc bs op pr pe pm) sz)) 0 0 (va_A (md_w ad cI cJ cd n tc ki ra po se bc bs op pr pe pm) sz) := by
  refine Met.ofW (cc := b_M_back) (maxL := 5) (ret := (some .long)) (by decide) rfl ?_
  intro p e s m args below meth c s₁ B hml hv
  obtain ⟨rfl, hsz, hP, hK, hD0⟩ := hv
  have hx := B.exec
  have hb := B.bytes
  have hr := B.returns
  have hts0 := atoms_spec (ws := (.code y_M_back b_M_back 5 (some .long) :: wAll)) B.pre
  have hts := hts_all hts0
  have hown : s.vm.findClass "ClearingBooksModel" = some m.cls := findClass_of_methodNamed B.named
  have hlocks := B.notSynchronized
  subst hsz
  have hD := hD0.self (sz := s.heap.size)
  generalize hAe : va_A (md_w ad cI cJ cd n tc ki ra po se bc bs op pr pe pm) s.heap.size = A at hD ⊢
  have hA : ∀ q : Nat, s.heap.size ≤ q → A q := fun q h => by rw [← hAe]; exact Or.inr h
  have hS : va_S A s.heap s.heap [] := va_S.rf
  have hl := lv_entry ([.ref (ad 0), .int (nI i), .int (nI j), .long x]) (n := 5) (Nat.le_of_ble_eq_true rfl)
  rw [lg_entry_eq]
  generalize (lg_sl ([.ref (ad 0), .int (nI i), .int (nI j), .long x]) ++ List.replicate (5 - (lg_sl ([.ref (ad 0), .int (nI i), .int (nI j), .long x])).length) Slot.unset).toArray = ls at hl ⊢
  have hl : lv_has ls 5 [(0, .ref (ad 0)), (1, .int (nI i)), (2, .int (nI j)), (3, .long x)] := hl
  refine lv_aload_n hx hb d_M_back_0 rfl (lv_at hl 0 rfl) ?_
  refine lv_aload_n hx hb d_M_back_1 rfl (lv_at hl 0 rfl) ?_
  refine lv_iload_n hx hb d_M_back_2 rfl (lv_at hl 1 rfl) ?_
  refine lv_iconst (v := nI 1) hx hb d_M_back_3 (by decide) ?_
  refine ro_call (va_runV (As := [.int (nI i), .int (nI 1)]) (rest := [.ref (ad 0)]) ⟨hx, hb, hml, hown, hts⟩ (m_is_y l dC dI ad cI cJ cd n tc ki ra po se bc bs op pr pe pm i (nI 1) h0i hji hn hki) (cwV 2 hts (wAll_v kw_333 kw_335 ks_11 kw_2 kw_336) rfl rfl rfl (by decide +kernel) ⟨Nat.le_of_ble_eq_true rfl, Nat.le_of_ble_eq_true rfl⟩) (ro_preV bl_tt hK hP (ci := 1) (q0 := 0) rfl rfl (fun _ _ _ => trivial)) rfl rfl hl.1 rfl (lv_room (Nat.le_of_ble_eq_true rfl)) d_M_back_4 ⟨Nat.le_of_ble_eq_true rfl, Nat.le_of_ble_eq_true rfl⟩) ?_
  refine W.eq (g2 := F0 m 7 ls [.int (nI 1), .ref (ad 0)]) rfl ?_
  refine lv_if_eq (tgt := 39) hx hb d_M_back_7 (by decide) (fun c1 => ?_) (fun c1 => ?_)
  · exact absurd c1 (by decide)
  · refine lv_aload_n hx hb d_M_back_10 rfl (lv_at hl 0 rfl) ?_
    refine lv_iload_n hx hb d_M_back_11 rfl (lv_at hl 2 rfl) ?_
    refine lv_iconst (v := nI 2) hx hb d_M_back_12 (by decide) ?_
    refine ro_call (va_runV (As := [.int (nI j), .int (nI 2)]) (rest := [.ref (ad 0)]) ⟨hx, hb, hml, hown, hts⟩ (m_is_y l dC dI ad cI cJ cd n tc ki ra po se bc bs op pr pe pm j (nI 2) h0j hjj hn hkj) (cwV 2 hts (wAll_v kw_333 kw_335 ks_11 kw_2 kw_336) rfl rfl rfl (by decide +kernel) ⟨Nat.le_of_ble_eq_true rfl, Nat.le_of_ble_eq_true rfl⟩) (ro_preV bl_tt hK hP (ci := 1) (q0 := 0) rfl rfl (fun _ _ _ => trivial)) rfl rfl hl.1 rfl (lv_room (Nat.le_of_ble_eq_true rfl)) d_M_back_13 ⟨Nat.le_of_ble_eq_true rfl, Nat.le_of_ble_eq_true rfl⟩) ?_
    refine W.eq (g2 := F0 m 16 ls [.int (nI 1), .ref (ad 0)]) rfl ?_
    refine lv_if_eq (tgt := 39) hx hb d_M_back_16 (by decide) (fun c2 => ?_) (fun c2 => ?_)
    · exact absurd c2 (by decide)
    · refine lv_lload_n hx hb d_M_back_19 rfl (lv_at hl 3 rfl) ?_
      refine lv_ldc2 (v := (-1000000000000)) hx hb hown (hts _ kw_347) d_M_back_20 ?_
      refine W.lcmp hx hb d_M_back_23 ?_
      refine lv_if_lt (tgt := 39) hx hb d_M_back_24 (by decide) (fun c3 => ?_) (fun c3 => ?_)
      · replace c3 := (lg_cmp_lt _ _).mp c3
        refine lv_iconst (v := nI 0) hx hb d_M_back_39 (by decide) ?_
        refine mu_calli (va_runV (As := [.int (nI 0)]) (rest := []) ⟨hx, hb, hml, hown, hts⟩ (m_goes_n l dC dI ad cI cJ cd n tc ki ra po se bc bs op pr pe pm _ ) (cwV 1 hts (wAll_v kw_338 kw_340 ks_12 kw_2 kw_341) rfl rfl rfl (by decide +kernel) ⟨Nat.le_of_ble_eq_true rfl, Nat.le_of_ble_eq_true rfl⟩) (mu_preV hK hP hD (ci := 1) (q0 := 0) rfl rfl) rfl rfl hl.1 rfl (lv_room (Nat.le_of_ble_eq_true rfl)) d_M_back_40 ⟨Nat.le_of_ble_eq_true rfl, Nat.le_of_ble_eq_true rfl⟩) hD hS hA (fun r H locs hq hP hD hS => ?_)
        obtain rfl := hq
        have hP : va_P (dC, dI) vwCl (md_w ad cI cJ 1 n tc ki ra po se bc bs op pr pe pm) H := hP
        have hD : va_D A (md_w ad cI cJ 1 n tc ki ra po se bc bs op pr pe pm) := hD
        refine lv_if_ne (tgt := 48) hx hb d_M_back_43 (by decide) (fun c4 => ?_) (fun c4 => ?_)
        · exact absurd rfl c4
        · refine lv_lconst (v := 0) hx hb d_M_back_46 (by decide) ?_
          exact W.lret (v := 0) hx hb hr (fun t ht hW => ⟨⟨0, (), rfl, rfl, by rw [ht]; exact hP, va_K.moved hW.alike hK, hD⟩, hS.F ht⟩) hS.2.2 d_M_back_47
      · replace c3 := mt (lg_cmp_lt _ _).mpr c3
        refine lv_lload_n hx hb d_M_back_27 rfl (lv_at hl 3 rfl) ?_
        refine lv_ldc2 (v := 1000000000000) hx hb hown (hts _ kw_337) d_M_back_28 ?_
        refine W.lcmp hx hb d_M_back_31 ?_
        refine lv_if_gt (tgt := 39) hx hb d_M_back_32 (by decide) (fun c5 => ?_) (fun c5 => ?_)
        · replace c5 := (lg_cmp_gt _ _).mp c5
          refine lv_iconst (v := nI 0) hx hb d_M_back_39 (by decide) ?_
          refine mu_calli (va_runV (As := [.int (nI 0)]) (rest := []) ⟨hx, hb, hml, hown, hts⟩ (m_goes_n l dC dI ad cI cJ cd n tc ki ra po se bc bs op pr pe pm _ ) (cwV 1 hts (wAll_v kw_338 kw_340 ks_12 kw_2 kw_341) rfl rfl rfl (by decide +kernel) ⟨Nat.le_of_ble_eq_true rfl, Nat.le_of_ble_eq_true rfl⟩) (mu_preV hK hP hD (ci := 1) (q0 := 0) rfl rfl) rfl rfl hl.1 rfl (lv_room (Nat.le_of_ble_eq_true rfl)) d_M_back_40 ⟨Nat.le_of_ble_eq_true rfl, Nat.le_of_ble_eq_true rfl⟩) hD hS hA (fun r H locs hq hP hD hS => ?_)
          obtain rfl := hq
          have hP : va_P (dC, dI) vwCl (md_w ad cI cJ 1 n tc ki ra po se bc bs op pr pe pm) H := hP
          have hD : va_D A (md_w ad cI cJ 1 n tc ki ra po se bc bs op pr pe pm) := hD
          refine lv_if_ne (tgt := 48) hx hb d_M_back_43 (by decide) (fun c6 => ?_) (fun c6 => ?_)
          · exact absurd rfl c6
          · refine lv_lconst (v := 0) hx hb d_M_back_46 (by decide) ?_
            exact W.lret (v := 0) hx hb hr (fun t ht hW => ⟨⟨0, (), rfl, rfl, by rw [ht]; exact hP, va_K.moved hW.alike hK, hD⟩, hS.F ht⟩) hS.2.2 d_M_back_47
        · replace c5 := mt (lg_cmp_gt _ _).mpr c5
          exact absurd ⟨c3, c5⟩ hno
set_option maxHeartbeats 4000000 in
set_option maxRecDepth 100000 in
theorem m_reconcile_y (l : Launch) (dC : Nat → ClassId) (dI : Nat → Nat → Nat) (ad : Nat → Nat) (cI cJ : ClassId) (cd n tc : Nat) (ki ra : Nat → Int32) (po se : Nat → Int64) (bc : Nat → Int32) (bs op : Nat → Int64) (pr pe : Nat → Int32) (pm : Nat → Int64) (sz : Nat) (i : Nat) (k : Int32) (x : Int64) (h0i : 0 < i) (hji : i < n) (hn : n ≤ 15) (hki : ki i = nI 1) (hy : bc i = k ∧ bs i = x) : Met l y_M_reconcile (.code y_M_reconcile b_M_reconcile 5 (some .boolean) :: wAll) ({ frames := 1, cells := 0, slots := 0, locals := 22 } : Room) (mu_P [.ref (ad 0), .int (nI i), .int k, .long x] (dC, dI) vwCl [(cI, .int), (cJ, .long)] (md_w ad cI cJ cd n tc ki ra po se bc bs op pr pe pm) sz) (va_Qi (fun (z : Int32) (_ : Unit) => z = nI 1) (mu_B (dC, dI) vwCl [(cI, .int), (cJ, .long)] (va_A (md_w ad cI cJ cd n tc ki ra po se bc bs op pr pe pm) sz) (md_w ad cI cJ 0 n tc ki ra po se (upd bc i (nI 0)) (vp_updL bs i 0) op pr pe pm)) (va_A (md_w ad cI cJ cd n tc ki ra po se bc bs op pr pe pm) sz)) 0 0 (va_A (md_w ad cI cJ cd n tc ki ra po se bc bs op pr pe pm) sz) := by
  refine Met.ofW (cc := b_M_reconcile) (maxL := 5) (ret := (some .boolean)) (by decide) rfl ?_
  intro p e s m args below meth c s₁ B hml hv
  obtain ⟨rfl, hsz, hP, hK, hD0⟩ := hv
  have hx := B.exec
  have hb := B.bytes
  have hr := B.returns
  have hts0 := atoms_spec (ws := (.code y_M_reconcile b_M_reconcile 5 (some .boolean) :: wAll)) B.pre
  have hts := hts_all hts0
  have hown : s.vm.findClass "ClearingBooksModel" = some m.cls := findClass_of_methodNamed B.named
  have hlocks := B.notSynchronized
  subst hsz
  have hD := hD0.self (sz := s.heap.size)
  generalize hAe : va_A (md_w ad cI cJ cd n tc ki ra po se bc bs op pr pe pm) s.heap.size = A at hD ⊢
  have hA : ∀ q : Nat, s.heap.size ≤ q → A q := fun q h => by rw [← hAe]; exact Or.inr h
  have hS : va_S A s.heap s.heap [] := va_S.rf
  have hl := lv_entry ([.ref (ad 0), .int (nI i), .int k, .long x]) (n := 5) (Nat.le_of_ble_eq_true rfl)
  rw [lg_entry_eq]
  generalize (lg_sl ([.ref (ad 0), .int (nI i), .int k, .long x]) ++ List.replicate (5 - (lg_sl ([.ref (ad 0), .int (nI i), .int k, .long x])).length) Slot.unset).toArray = ls at hl ⊢
  have hl : lv_has ls 5 [(0, .ref (ad 0)), (1, .int (nI i)), (2, .int k), (3, .long x)] := hl
  refine lv_aload_n hx hb d_M_reconcile_0 rfl (lv_at hl 0 rfl) ?_
  refine lv_aload_n hx hb d_M_reconcile_1 rfl (lv_at hl 0 rfl) ?_
  refine lv_iload_n hx hb d_M_reconcile_2 rfl (lv_at hl 1 rfl) ?_
  refine lv_iconst (v := nI 1) hx hb d_M_reconcile_3 (by decide) ?_
  refine ro_call (va_runV (As := [.int (nI i), .int (nI 1)]) (rest := [.ref (ad 0)]) ⟨hx, hb, hml, hown, hts⟩ (m_is_y l dC dI ad cI cJ cd n tc ki ra po se bc bs op pr pe pm i (nI 1) h0i hji hn hki) (cwV 2 hts (wAll_v kw_333 kw_335 ks_11 kw_2 kw_336) rfl rfl rfl (by decide +kernel) ⟨Nat.le_of_ble_eq_true rfl, Nat.le_of_ble_eq_true rfl⟩) (ro_preV bl_tt hK hP (ci := 1) (q0 := 0) rfl rfl (fun _ _ _ => trivial)) rfl rfl hl.1 rfl (lv_room (Nat.le_of_ble_eq_true rfl)) d_M_reconcile_4 ⟨Nat.le_of_ble_eq_true rfl, Nat.le_of_ble_eq_true rfl⟩) ?_
  refine W.eq (g2 := F0 m 7 ls [.int (nI 1), .ref (ad 0)]) rfl ?_
  refine mu_calli (va_runV (As := [.int (nI 1)]) (rest := []) ⟨hx, hb, hml, hown, hts⟩ (m_goes_y l dC dI ad cI cJ cd n tc ki ra po se bc bs op pr pe pm _ ) (cwV 1 hts (wAll_v kw_338 kw_340 ks_12 kw_2 kw_341) rfl rfl rfl (by decide +kernel) ⟨Nat.le_of_ble_eq_true rfl, Nat.le_of_ble_eq_true rfl⟩) (mu_preV hK hP hD (ci := 1) (q0 := 0) rfl rfl) rfl rfl hl.1 rfl (lv_room (Nat.le_of_ble_eq_true rfl)) d_M_reconcile_7 ⟨Nat.le_of_ble_eq_true rfl, Nat.le_of_ble_eq_true rfl⟩) hD hS hA (fun r H locs hq hP hD hS => ?_)
  obtain rfl := hq
  have hP : va_P (dC, dI) vwCl (md_w ad cI cJ 0 n tc ki ra po se bc bs op pr pe pm) H := hP
  have hD : va_D A (md_w ad cI cJ 0 n tc ki ra po se bc bs op pr pe pm) := hD
  refine lv_if_eq (tgt := 34) hx hb d_M_reconcile_10 (by decide) (fun c1 => ?_) (fun c1 => ?_)
  · exact absurd c1 (by decide)
  · refine lv_aload_n hx hb d_M_reconcile_13 rfl (lv_at hl 0 rfl) ?_
    refine va_get (D := (dC, dI)) (ci := 1) (v := .ref (ad 5)) (C := "ClearingBooksModel") (T := T_M) (N := 13) hx hb hts wi_M hown hK hP 0 rfl rfl 6 (by decide) (hts _ kw_279) (fun _ h9 => h9) rfl d_M_reconcile_14 ?_
    refine lv_iload_n hx hb d_M_reconcile_17 rfl (lv_at hl 1 rfl) ?_
    refine xa_iaload (f := bc) hx hb hK hP 5 0 rfl rfl (j := i) (by omega) (by decide) d_M_reconcile_18 ?_
    refine lv_iload_n hx hb d_M_reconcile_19 rfl (lv_at hl 2 rfl) ?_
    refine lv_icmp_ne (tgt := 34) hx hb d_M_reconcile_20 (by decide) (fun c2 => ?_) (fun c2 => ?_)
    · exact absurd hy.1 c2
    · refine lv_aload_n hx hb d_M_reconcile_23 rfl (lv_at hl 0 rfl) ?_
      refine va_get (D := (dC, dI)) (ci := 1) (v := .ref (ad 6)) (C := "ClearingBooksModel") (T := T_M) (N := 13) hx hb hts wi_M hown hK hP 0 rfl rfl 7 (by decide) (hts _ kw_280) (fun _ h9 => h9) rfl d_M_reconcile_24 ?_
      refine lv_iload_n hx hb d_M_reconcile_27 rfl (lv_at hl 1 rfl) ?_
      refine xa_laload (f := bs) hx hb hK hP 6 1 rfl rfl (j := i) (by omega) (by decide) d_M_reconcile_28 ?_
      refine lv_lload_n hx hb d_M_reconcile_29 rfl (lv_at hl 3 rfl) ?_
      refine W.lcmp hx hb d_M_reconcile_30 ?_
      refine lv_if_eq (tgt := 36) hx hb d_M_reconcile_31 (by decide) (fun c3 => ?_) (fun c3 => ?_)
      · replace c3 := (lg_cmp_eq _ _).mp c3
        refine lv_aload_n hx hb d_M_reconcile_36 rfl (lv_at hl 0 rfl) ?_
        refine va_get (D := (dC, dI)) (ci := 1) (v := .ref (ad 5)) (C := "ClearingBooksModel") (T := T_M) (N := 13) hx hb hts wi_M hown hK hP 0 rfl rfl 6 (by decide) (hts _ kw_279) (fun _ h9 => h9) rfl d_M_reconcile_37 ?_
        refine lv_iload_n hx hb d_M_reconcile_40 rfl (lv_at hl 1 rfl) ?_
        refine lv_iconst (v := nI 0) hx hb d_M_reconcile_41 (by decide) ?_
        refine xa_iastore (f := bc) (x := nI 0) hx hb hK hP hD hS 5 0 rfl rfl (j := i) (by omega) (by decide) d_M_reconcile_42 (fun H locs hP hD hS => ?_)
        have hP : va_P (dC, dI) vwCl (md_w ad cI cJ 0 n tc ki ra po se (upd bc i (nI 0)) bs op pr pe pm) H := hP
        have hD : va_D A (md_w ad cI cJ 0 n tc ki ra po se (upd bc i (nI 0)) bs op pr pe pm) := hD
        refine lv_aload_n hx hb d_M_reconcile_43 rfl (lv_at hl 0 rfl) ?_
        refine va_get (D := (dC, dI)) (ci := 1) (v := .ref (ad 6)) (C := "ClearingBooksModel") (T := T_M) (N := 13) hx hb hts wi_M hown hK hP 0 rfl rfl 7 (by decide) (hts _ kw_280) (fun _ h9 => h9) rfl d_M_reconcile_44 ?_
        refine lv_iload_n hx hb d_M_reconcile_47 rfl (lv_at hl 1 rfl) ?_
        refine lv_lconst (v := 0) hx hb d_M_reconcile_48 (by decide) ?_
        refine xa_lastore (f := bs) (x := 0) hx hb hK hP hD hS 6 1 rfl rfl (j := i) (by omega) (by decide) d_M_reconcile_49 (fun H locs hP hD hS => ?_)
        have hP : va_P (dC, dI) vwCl (md_w ad cI cJ 0 n tc ki ra po se (upd bc i (nI 0)) (vp_updL bs i 0) op pr pe pm) H := hP
        have hD : va_D A (md_w ad cI cJ 0 n tc ki ra po se (upd bc i (nI 0)) (vp_updL bs i 0) op pr pe pm) := hD
        refine lv_iconst (v := nI 1) hx hb d_M_reconcile_50 (by decide) ?_
        exact W.zret (v := nI 1) hx hb hr rfl (fun t ht hW => ⟨⟨nI 1, (), rfl, rfl, by rw [ht]; exact hP, va_K.moved hW.alike hK, hD⟩, hS.F ht⟩) hS.2.2 d_M_reconcile_51
      · replace c3 := mt (lg_cmp_eq _ _).mpr c3
        exact absurd hy.2 c3
set_option maxHeartbeats 4000000 in
set_option maxRecDepth 100000 in
theorem m_reconcile_n (l : Launch) (dC : Nat → ClassId) (dI : Nat → Nat → Nat) (ad : Nat → Nat) (cI cJ : ClassId) (cd n tc : Nat) (ki ra : Nat → Int32) (po se : Nat → Int64) (bc : Nat → Int32) (bs op : Nat → Int64) (pr pe : Nat → Int32) (pm : Nat → Int64) (sz : Nat) (i : Nat) (k : Int32) (x : Int64) (h0i : 0 < i) (hji : i < n) (hn : n ≤ 15) (hki : ki i = nI 1) (hy : ¬ (bc i = k ∧ bs i = x)) : Met l y_M_reconcile (.code y_M_reconcile b_M_reconcile 5 (some .boolean) :: wAll) ({ frames := 1, cells := 0, slots := 0, locals := 22 } : Room) (mu_P [.ref (ad 0), .int (nI i), .int k, .long x] (dC, dI) vwCl [(cI, .int), (cJ, .long)] (md_w ad cI cJ cd n tc ki ra po se bc bs op pr pe pm) sz) (va_Qi (fun (z : Int32) (_ : Unit) => z = nI 0) (mu_B (dC, dI) vwCl [(cI, .int), (cJ, .long)] (va_A (md_w ad cI cJ cd n tc ki ra po se bc bs op pr pe pm) sz) (md_w ad cI cJ 0 n tc ki ra po se bc bs op pr pe pm)) (va_A (md_w ad cI cJ cd n tc ki ra po se bc bs op pr pe pm) sz)) 0 0 (va_A (md_w ad cI cJ cd n tc ki ra po se bc bs op pr pe pm) sz) := by
  refine Met.ofW (cc := b_M_reconcile) (maxL := 5) (ret := (some .boolean)) (by decide) rfl ?_
  intro p e s m args below meth c s₁ B hml hv
  obtain ⟨rfl, hsz, hP, hK, hD0⟩ := hv
  have hx := B.exec
  have hb := B.bytes
  have hr := B.returns
  have hts0 := atoms_spec (ws := (.code y_M_reconcile b_M_reconcile 5 (some .boolean) :: wAll)) B.pre
  have hts := hts_all hts0
  have hown : s.vm.findClass "ClearingBooksModel" = some m.cls := findClass_of_methodNamed B.named
  have hlocks := B.notSynchronized
  subst hsz
  have hD := hD0.self (sz := s.heap.size)
  generalize hAe : va_A (md_w ad cI cJ cd n tc ki ra po se bc bs op pr pe pm) s.heap.size = A at hD ⊢
  have hA : ∀ q : Nat, s.heap.size ≤ q → A q := fun q h => by rw [← hAe]; exact Or.inr h
  have hS : va_S A s.heap s.heap [] := va_S.rf
  have hl := lv_entry ([.ref (ad 0), .int (nI i), .int k, .long x]) (n := 5) (Nat.le_of_ble_eq_true rfl)
  rw [lg_entry_eq]
  generalize (lg_sl ([.ref (ad 0), .int (nI i), .int k, .long x]) ++ List.replicate (5 - (lg_sl ([.ref (ad 0), .int (nI i), .int k, .long x])).length) Slot.unset).toArray = ls at hl ⊢
  have hl : lv_has ls 5 [(0, .ref (ad 0)), (1, .int (nI i)), (2, .int k), (3, .long x)] := hl
  refine lv_aload_n hx hb d_M_reconcile_0 rfl (lv_at hl 0 rfl) ?_
  refine lv_aload_n hx hb d_M_reconcile_1 rfl (lv_at hl 0 rfl) ?_
  refine lv_iload_n hx hb d_M_reconcile_2 rfl (lv_at hl 1 rfl) ?_
  refine lv_iconst (v := nI 1) hx hb d_M_reconcile_3 (by decide) ?_
  refine ro_call (va_runV (As := [.int (nI i), .int (nI 1)]) (rest := [.ref (ad 0)]) ⟨hx, hb, hml, hown, hts⟩ (m_is_y l dC dI ad cI cJ cd n tc ki ra po se bc bs op pr pe pm i (nI 1) h0i hji hn hki) (cwV 2 hts (wAll_v kw_333 kw_335 ks_11 kw_2 kw_336) rfl rfl rfl (by decide +kernel) ⟨Nat.le_of_ble_eq_true rfl, Nat.le_of_ble_eq_true rfl⟩) (ro_preV bl_tt hK hP (ci := 1) (q0 := 0) rfl rfl (fun _ _ _ => trivial)) rfl rfl hl.1 rfl (lv_room (Nat.le_of_ble_eq_true rfl)) d_M_reconcile_4 ⟨Nat.le_of_ble_eq_true rfl, Nat.le_of_ble_eq_true rfl⟩) ?_
  refine W.eq (g2 := F0 m 7 ls [.int (nI 1), .ref (ad 0)]) rfl ?_
  refine mu_calli (va_runV (As := [.int (nI 1)]) (rest := []) ⟨hx, hb, hml, hown, hts⟩ (m_goes_y l dC dI ad cI cJ cd n tc ki ra po se bc bs op pr pe pm _ ) (cwV 1 hts (wAll_v kw_338 kw_340 ks_12 kw_2 kw_341) rfl rfl rfl (by decide +kernel) ⟨Nat.le_of_ble_eq_true rfl, Nat.le_of_ble_eq_true rfl⟩) (mu_preV hK hP hD (ci := 1) (q0 := 0) rfl rfl) rfl rfl hl.1 rfl (lv_room (Nat.le_of_ble_eq_true rfl)) d_M_reconcile_7 ⟨Nat.le_of_ble_eq_true rfl, Nat.le_of_ble_eq_true rfl⟩) hD hS hA (fun r H locs hq hP hD hS => ?_)
  obtain rfl := hq
  have hP : va_P (dC, dI) vwCl (md_w ad cI cJ 0 n tc ki ra po se bc bs op pr pe pm) H := hP
  have hD : va_D A (md_w ad cI cJ 0 n tc ki ra po se bc bs op pr pe pm) := hD
  refine lv_if_eq (tgt := 34) hx hb d_M_reconcile_10 (by decide) (fun c1 => ?_) (fun c1 => ?_)
  · exact absurd c1 (by decide)
  · refine lv_aload_n hx hb d_M_reconcile_13 rfl (lv_at hl 0 rfl) ?_
    refine va_get (D := (dC, dI)) (ci := 1) (v := .ref (ad 5)) (C := "ClearingBooksModel") (T := T_M) (N := 13) hx hb hts wi_M hown hK hP 0 rfl rfl 6 (by decide) (hts _ kw_279) (fun _ h9 => h9) rfl d_M_reconcile_14 ?_
    refine lv_iload_n hx hb d_M_reconcile_17 rfl (lv_at hl 1 rfl) ?_
    refine xa_iaload (f := bc) hx hb hK hP 5 0 rfl rfl (j := i) (by omega) (by decide) d_M_reconcile_18 ?_
    refine lv_iload_n hx hb d_M_reconcile_19 rfl (lv_at hl 2 rfl) ?_
    refine lv_icmp_ne (tgt := 34) hx hb d_M_reconcile_20 (by decide) (fun c2 => ?_) (fun c2 => ?_)
    · refine lv_iconst (v := nI 0) hx hb d_M_reconcile_34 (by decide) ?_
      exact W.zret (v := nI 0) hx hb hr rfl (fun t ht hW => ⟨⟨nI 0, (), rfl, rfl, by rw [ht]; exact hP, va_K.moved hW.alike hK, hD⟩, hS.F ht⟩) hS.2.2 d_M_reconcile_35
    · refine lv_aload_n hx hb d_M_reconcile_23 rfl (lv_at hl 0 rfl) ?_
      refine va_get (D := (dC, dI)) (ci := 1) (v := .ref (ad 6)) (C := "ClearingBooksModel") (T := T_M) (N := 13) hx hb hts wi_M hown hK hP 0 rfl rfl 7 (by decide) (hts _ kw_280) (fun _ h9 => h9) rfl d_M_reconcile_24 ?_
      refine lv_iload_n hx hb d_M_reconcile_27 rfl (lv_at hl 1 rfl) ?_
      refine xa_laload (f := bs) hx hb hK hP 6 1 rfl rfl (j := i) (by omega) (by decide) d_M_reconcile_28 ?_
      refine lv_lload_n hx hb d_M_reconcile_29 rfl (lv_at hl 3 rfl) ?_
      refine W.lcmp hx hb d_M_reconcile_30 ?_
      refine lv_if_eq (tgt := 36) hx hb d_M_reconcile_31 (by decide) (fun c3 => ?_) (fun c3 => ?_)
      · replace c3 := (lg_cmp_eq _ _).mp c3
        exact absurd ⟨c2, c3⟩ hy
      · replace c3 := mt (lg_cmp_eq _ _).mpr c3
        refine lv_iconst (v := nI 0) hx hb d_M_reconcile_34 (by decide) ?_
        exact W.zret (v := nI 0) hx hb hr rfl (fun t ht hW => ⟨⟨nI 0, (), rfl, rfl, by rw [ht]; exact hP, va_K.moved hW.alike hK, hD⟩, hS.F ht⟩) hS.2.2 d_M_reconcile_35
set_option maxHeartbeats 4000000 in
set_option maxRecDepth 100000 in
theorem m_reconcile_t (l : Launch) (dC : Nat → ClassId) (dI : Nat → Nat → Nat) (ad : Nat → Nat) (cI cJ : ClassId) (cd n tc : Nat) (ki ra : Nat → Int32) (po se : Nat → Int64) (bc : Nat → Int32) (bs op : Nat → Int64) (pr pe : Nat → Int32) (pm : Nat → Int64) (sz : Nat) (a k : Int32) (x : Int64) (hn : n ≤ 15) (hno : ¬ is_k n ki a (nI 1)) : Met l y_M_reconcile (.code y_M_reconcile b_M_reconcile 5 (some .boolean) :: wAll) ({ frames := 1, cells := 0, slots := 0, locals := 22 } : Room) (mu_P [.ref (ad 0), .int a, .int k, .long x] (dC, dI) vwCl [(cI, .int), (cJ, .long)] (md_w ad cI cJ cd n tc ki ra po se bc bs op pr pe pm) sz) (va_Qi (fun (z : Int32) (_ : Unit) => z = nI 0) (mu_B (dC, dI) vwCl [(cI, .int), (cJ, .long)] (va_A (md_w ad cI cJ cd n tc ki ra po se bc bs op pr pe pm) sz) (md_w ad cI cJ 1 n tc ki ra po se bc bs op pr pe pm)) (va_A (md_w ad cI cJ cd n tc ki ra po se bc bs op pr pe pm) sz)) 0 0 (va_A (md_w ad cI cJ cd n tc ki ra po se bc bs op pr pe pm) sz) := by
  refine Met.ofW (cc := b_M_reconcile) (maxL := 5) (ret := (some .boolean)) (by decide) rfl ?_
  intro p e s m args below meth c s₁ B hml hv
  obtain ⟨rfl, hsz, hP, hK, hD0⟩ := hv
  have hx := B.exec
  have hb := B.bytes
  have hr := B.returns
  have hts0 := atoms_spec (ws := (.code y_M_reconcile b_M_reconcile 5 (some .boolean) :: wAll)) B.pre
  have hts := hts_all hts0
  have hown : s.vm.findClass "ClearingBooksModel" = some m.cls := findClass_of_methodNamed B.named
  have hlocks := B.notSynchronized
  subst hsz
  have hD := hD0.self (sz := s.heap.size)
  generalize hAe : va_A (md_w ad cI cJ cd n tc ki ra po se bc bs op pr pe pm) s.heap.size = A at hD ⊢
  have hA : ∀ q : Nat, s.heap.size ≤ q → A q := fun q h => by rw [← hAe]; exact Or.inr h
  have hS : va_S A s.heap s.heap [] := va_S.rf
  have hl := lv_entry ([.ref (ad 0), .int a, .int k, .long x]) (n := 5) (Nat.le_of_ble_eq_true rfl)
  rw [lg_entry_eq]
  generalize (lg_sl ([.ref (ad 0), .int a, .int k, .long x]) ++ List.replicate (5 - (lg_sl ([.ref (ad 0), .int a, .int k, .long x])).length) Slot.unset).toArray = ls at hl ⊢
  have hl : lv_has ls 5 [(0, .ref (ad 0)), (1, .int a), (2, .int k), (3, .long x)] := hl
  refine lv_aload_n hx hb d_M_reconcile_0 rfl (lv_at hl 0 rfl) ?_
  refine lv_aload_n hx hb d_M_reconcile_1 rfl (lv_at hl 0 rfl) ?_
  refine lv_iload_n hx hb d_M_reconcile_2 rfl (lv_at hl 1 rfl) ?_
  refine lv_iconst (v := nI 1) hx hb d_M_reconcile_3 (by decide) ?_
  refine ro_call (va_runV (As := [.int a, .int (nI 1)]) (rest := [.ref (ad 0)]) ⟨hx, hb, hml, hown, hts⟩ (m_is_n l dC dI ad cI cJ cd n tc ki ra po se bc bs op pr pe pm a (nI 1) hn hno) (cwV 2 hts (wAll_v kw_333 kw_335 ks_11 kw_2 kw_336) rfl rfl rfl (by decide +kernel) ⟨Nat.le_of_ble_eq_true rfl, Nat.le_of_ble_eq_true rfl⟩) (ro_preV bl_tt hK hP (ci := 1) (q0 := 0) rfl rfl (fun _ _ _ => trivial)) rfl rfl hl.1 rfl (lv_room (Nat.le_of_ble_eq_true rfl)) d_M_reconcile_4 ⟨Nat.le_of_ble_eq_true rfl, Nat.le_of_ble_eq_true rfl⟩) ?_
  refine W.eq (g2 := F0 m 7 ls [.int (nI 0), .ref (ad 0)]) rfl ?_
  refine mu_calli (va_runV (As := [.int (nI 0)]) (rest := []) ⟨hx, hb, hml, hown, hts⟩ (m_goes_n l dC dI ad cI cJ cd n tc ki ra po se bc bs op pr pe pm _ ) (cwV 1 hts (wAll_v kw_338 kw_340 ks_12 kw_2 kw_341) rfl rfl rfl (by decide +kernel) ⟨Nat.le_of_ble_eq_true rfl, Nat.le_of_ble_eq_true rfl⟩) (mu_preV hK hP hD (ci := 1) (q0 := 0) rfl rfl) rfl rfl hl.1 rfl (lv_room (Nat.le_of_ble_eq_true rfl)) d_M_reconcile_7 ⟨Nat.le_of_ble_eq_true rfl, Nat.le_of_ble_eq_true rfl⟩) hD hS hA (fun r H locs hq hP hD hS => ?_)
  obtain rfl := hq
  have hP : va_P (dC, dI) vwCl (md_w ad cI cJ 1 n tc ki ra po se bc bs op pr pe pm) H := hP
  have hD : va_D A (md_w ad cI cJ 1 n tc ki ra po se bc bs op pr pe pm) := hD
  refine lv_if_eq (tgt := 34) hx hb d_M_reconcile_10 (by decide) (fun c1 => ?_) (fun c1 => ?_)
  · refine lv_iconst (v := nI 0) hx hb d_M_reconcile_34 (by decide) ?_
    exact W.zret (v := nI 0) hx hb hr rfl (fun t ht hW => ⟨⟨nI 0, (), rfl, rfl, by rw [ht]; exact hP, va_K.moved hW.alike hK, hD⟩, hS.F ht⟩) hS.2.2 d_M_reconcile_35
  · exact absurd rfl c1
set_option maxHeartbeats 4000000 in
set_option maxRecDepth 100000 in
theorem m_batch_y0 (l : Launch) (dC : Nat → ClassId) (dI : Nat → Nat → Nat) (ad : Nat → Nat) (cI cJ : ClassId) (cd n tc : Nat) (ki ra : Nat → Int32) (po se : Nat → Int64) (bc : Nat → Int32) (bs op : Nat → Int64) (pr pe : Nat → Int32) (pm : Nat → Int64) (sz : Nat) (i : Nat) (h0i : 0 < i) (hji : i < n) (hn : n ≤ 15) (hki : ki i = nI 1) : Met l y_M_batch (.code y_M_batch b_M_batch 3 (some .long) :: wAll) ({ frames := 1, cells := 0, slots := 0, locals := 22 } : Room) (mu_P [.ref (ad 0), .int (nI i), .int (nI 0)] (dC, dI) vwCl [(cI, .int), (cJ, .long)] (md_w ad cI cJ cd n tc ki ra po se bc bs op pr pe pm) sz) (va_Ql (fun (z : Int64) (_ : Unit) => z = (bc i).toInt64) (mu_B (dC, dI) vwCl [(cI, .int), (cJ, .long)] (va_A (md_w ad cI cJ cd n tc ki ra po se bc bs op pr pe pm) sz) (md_w ad cI cJ 0 n tc ki ra po se bc bs op pr pe pm)) (va_A (md_w ad cI cJ cd n tc ki ra po se bc bs op pr pe pm) sz)) 0 0 (va_A (md_w ad cI cJ cd n tc ki ra po se bc bs op pr pe pm) sz) := by
  refine Met.ofW (cc := b_M_batch) (maxL := 3) (ret := (some .long)) (by decide) rfl ?_
  intro p e s m args below meth c s₁ B hml hv
  obtain ⟨rfl, hsz, hP, hK, hD0⟩ := hv
  have hx := B.exec
  have hb := B.bytes
  have hr := B.returns
  have hts0 := atoms_spec (ws := (.code y_M_batch b_M_batch 3 (some .long) :: wAll)) B.pre
  have hts := hts_all hts0
  have hown : s.vm.findClass "ClearingBooksModel" = some m.cls := findClass_of_methodNamed B.named
  have hlocks := B.notSynchronized
  subst hsz
  have hD := hD0.self (sz := s.heap.size)
  generalize hAe : va_A (md_w ad cI cJ cd n tc ki ra po se bc bs op pr pe pm) s.heap.size = A at hD ⊢
  have hA : ∀ q : Nat, s.heap.size ≤ q → A q := fun q h => by rw [← hAe]; exact Or.inr h
  have hS : va_S A s.heap s.heap [] := va_S.rf
  have hl := lv_entry ([.ref (ad 0), .int (nI i), .int (nI 0)]) (n := 3) (Nat.le_of_ble_eq_true rfl)
  rw [lg_entry_eq]
  generalize (lg_sl ([.ref (ad 0), .int (nI i), .int (nI 0)]) ++ List.replicate (3 - (lg_sl ([.ref (ad 0), .int (nI i), .int (nI 0)])).length) Slot.unset).toArray = ls at hl ⊢
  have hl : lv_has ls 3 [(0, .ref (ad 0)), (1, .int (nI i)), (2, .int (nI 0))] := hl
  refine lv_aload_n hx hb d_M_batch_0 rfl (lv_at hl 0 rfl) ?_
  refine lv_aload_n hx hb d_M_batch_1 rfl (lv_at hl 0 rfl) ?_
  refine lv_iload_n hx hb d_M_batch_2 rfl (lv_at hl 1 rfl) ?_
  refine lv_iconst (v := nI 1) hx hb d_M_batch_3 (by decide) ?_
  refine ro_call (va_runV (As := [.int (nI i), .int (nI 1)]) (rest := [.ref (ad 0)]) ⟨hx, hb, hml, hown, hts⟩ (m_is_y l dC dI ad cI cJ cd n tc ki ra po se bc bs op pr pe pm i (nI 1) h0i hji hn hki) (cwV 2 hts (wAll_v kw_333 kw_335 ks_11 kw_2 kw_336) rfl rfl rfl (by decide +kernel) ⟨Nat.le_of_ble_eq_true rfl, Nat.le_of_ble_eq_true rfl⟩) (ro_preV bl_tt hK hP (ci := 1) (q0 := 0) rfl rfl (fun _ _ _ => trivial)) rfl rfl hl.1 rfl (lv_room (Nat.le_of_ble_eq_true rfl)) d_M_batch_4 ⟨Nat.le_of_ble_eq_true rfl, Nat.le_of_ble_eq_true rfl⟩) ?_
  refine W.eq (g2 := F0 m 7 ls [.int (nI 1), .ref (ad 0)]) rfl ?_
  refine lv_if_eq (tgt := 23) hx hb d_M_batch_7 (by decide) (fun c1 => ?_) (fun c1 => ?_)
  · exact absurd c1 (by decide)
  · refine lv_iload_n hx hb d_M_batch_10 rfl (lv_at hl 2 rfl) ?_
    refine lv_if_eq (tgt := 19) hx hb d_M_batch_11 (by decide) (fun c2 => ?_) (fun c2 => ?_)
    · refine lv_iconst (v := nI 1) hx hb d_M_batch_19 (by decide) ?_
      refine lv_goto (tgt := 24) hx hb d_M_batch_20 (by decide) ?_
      refine mu_calli (va_runV (As := [.int (nI 1)]) (rest := []) ⟨hx, hb, hml, hown, hts⟩ (m_goes_y l dC dI ad cI cJ cd n tc ki ra po se bc bs op pr pe pm _ ) (cwV 1 hts (wAll_v kw_338 kw_340 ks_12 kw_2 kw_341) rfl rfl rfl (by decide +kernel) ⟨Nat.le_of_ble_eq_true rfl, Nat.le_of_ble_eq_true rfl⟩) (mu_preV hK hP hD (ci := 1) (q0 := 0) rfl rfl) rfl rfl hl.1 rfl (lv_room (Nat.le_of_ble_eq_true rfl)) d_M_batch_24 ⟨Nat.le_of_ble_eq_true rfl, Nat.le_of_ble_eq_true rfl⟩) hD hS hA (fun r H locs hq hP hD hS => ?_)
      obtain rfl := hq
      have hP : va_P (dC, dI) vwCl (md_w ad cI cJ 0 n tc ki ra po se bc bs op pr pe pm) H := hP
      have hD : va_D A (md_w ad cI cJ 0 n tc ki ra po se bc bs op pr pe pm) := hD
      refine lv_if_ne (tgt := 32) hx hb d_M_batch_27 (by decide) (fun c3 => ?_) (fun c3 => ?_)
      · refine lv_iload_n hx hb d_M_batch_32 rfl (lv_at hl 2 rfl) ?_
        refine lv_if_ne (tgt := 46) hx hb d_M_batch_33 (by decide) (fun c4 => ?_) (fun c4 => ?_)
        · exact absurd rfl c4
        · refine lv_aload_n hx hb d_M_batch_36 rfl (lv_at hl 0 rfl) ?_
          refine va_get (D := (dC, dI)) (ci := 1) (v := .ref (ad 5)) (C := "ClearingBooksModel") (T := T_M) (N := 13) hx hb hts wi_M hown hK hP 0 rfl rfl 6 (by decide) (hts _ kw_279) (fun _ h9 => h9) rfl d_M_batch_37 ?_
          refine lv_iload_n hx hb d_M_batch_40 rfl (lv_at hl 1 rfl) ?_
          refine xa_iaload (f := bc) hx hb hK hP 5 0 rfl rfl (j := i) (by omega) (by decide) d_M_batch_41 ?_
          refine lv_i2l (v := (bc i).toInt64) hx hb d_M_batch_42 rfl ?_
          refine lv_goto (tgt := 52) hx hb d_M_batch_43 (by decide) ?_
          exact W.lret (v := (bc i).toInt64) hx hb hr (fun t ht hW => ⟨⟨(bc i).toInt64, (), rfl, rfl, by rw [ht]; exact hP, va_K.moved hW.alike hK, hD⟩, hS.F ht⟩) hS.2.2 d_M_batch_52
      · exact absurd c3 (by decide)
    · exact absurd rfl c2
set_option maxHeartbeats 4000000 in
set_option maxRecDepth 100000 in
theorem m_batch_y1 (l : Launch) (dC : Nat → ClassId) (dI : Nat → Nat → Nat) (ad : Nat → Nat) (cI cJ : ClassId) (cd n tc : Nat) (ki ra : Nat → Int32) (po se : Nat → Int64) (bc : Nat → Int32) (bs op : Nat → Int64) (pr pe : Nat → Int32) (pm : Nat → Int64) (sz : Nat) (i : Nat) (h0i : 0 < i) (hji : i < n) (hn : n ≤ 15) (hki : ki i = nI 1) : Met l y_M_batch (.code y_M_batch b_M_batch 3 (some .long) :: wAll) ({ frames := 1, cells := 0, slots := 0, locals := 22 } : Room) (mu_P [.ref (ad 0), .int (nI i), .int (nI 1)] (dC, dI) vwCl [(cI, .int), (cJ, .long)] (md_w ad cI cJ cd n tc ki ra po se bc bs op pr pe pm) sz) (va_Ql (fun (z : Int64) (_ : Unit) => z = bs i) (mu_B (dC, dI) vwCl [(cI, .int), (cJ, .long)] (va_A (md_w ad cI cJ cd n tc ki ra po se bc bs op pr pe pm) sz) (md_w ad cI cJ 0 n tc ki ra po se bc bs op pr pe pm)) (va_A (md_w ad cI cJ cd n tc ki ra po se bc bs op pr pe pm) sz)) 0 0 (va_A (md_w ad cI cJ cd n tc ki ra po se bc bs op pr pe pm) sz) := by
  refine Met.ofW (cc := b_M_batch) (maxL := 3) (ret := (some .long)) (by decide) rfl ?_
  intro p e s m args below meth c s₁ B hml hv
  obtain ⟨rfl, hsz, hP, hK, hD0⟩ := hv
  have hx := B.exec
  have hb := B.bytes
  have hr := B.returns
  have hts0 := atoms_spec (ws := (.code y_M_batch b_M_batch 3 (some .long) :: wAll)) B.pre
  have hts := hts_all hts0
  have hown : s.vm.findClass "ClearingBooksModel" = some m.cls := findClass_of_methodNamed B.named
  have hlocks := B.notSynchronized
  subst hsz
  have hD := hD0.self (sz := s.heap.size)
  generalize hAe : va_A (md_w ad cI cJ cd n tc ki ra po se bc bs op pr pe pm) s.heap.size = A at hD ⊢
  have hA : ∀ q : Nat, s.heap.size ≤ q → A q := fun q h => by rw [← hAe]; exact Or.inr h
  have hS : va_S A s.heap s.heap [] := va_S.rf
  have hl := lv_entry ([.ref (ad 0), .int (nI i), .int (nI 1)]) (n := 3) (Nat.le_of_ble_eq_true rfl)
  rw [lg_entry_eq]
  generalize (lg_sl ([.ref (ad 0), .int (nI i), .int (nI 1)]) ++ List.replicate (3 - (lg_sl ([.ref (ad 0), .int (nI i), .int (nI 1)])).length) Slot.unset).toArray = ls at hl ⊢
  have hl : lv_has ls 3 [(0, .ref (ad 0)), (1, .int (nI i)), (2, .int (nI 1))] := hl
  refine lv_aload_n hx hb d_M_batch_0 rfl (lv_at hl 0 rfl) ?_
  refine lv_aload_n hx hb d_M_batch_1 rfl (lv_at hl 0 rfl) ?_
  refine lv_iload_n hx hb d_M_batch_2 rfl (lv_at hl 1 rfl) ?_
  refine lv_iconst (v := nI 1) hx hb d_M_batch_3 (by decide) ?_
  refine ro_call (va_runV (As := [.int (nI i), .int (nI 1)]) (rest := [.ref (ad 0)]) ⟨hx, hb, hml, hown, hts⟩ (m_is_y l dC dI ad cI cJ cd n tc ki ra po se bc bs op pr pe pm i (nI 1) h0i hji hn hki) (cwV 2 hts (wAll_v kw_333 kw_335 ks_11 kw_2 kw_336) rfl rfl rfl (by decide +kernel) ⟨Nat.le_of_ble_eq_true rfl, Nat.le_of_ble_eq_true rfl⟩) (ro_preV bl_tt hK hP (ci := 1) (q0 := 0) rfl rfl (fun _ _ _ => trivial)) rfl rfl hl.1 rfl (lv_room (Nat.le_of_ble_eq_true rfl)) d_M_batch_4 ⟨Nat.le_of_ble_eq_true rfl, Nat.le_of_ble_eq_true rfl⟩) ?_
  refine W.eq (g2 := F0 m 7 ls [.int (nI 1), .ref (ad 0)]) rfl ?_
  refine lv_if_eq (tgt := 23) hx hb d_M_batch_7 (by decide) (fun c1 => ?_) (fun c1 => ?_)
  · exact absurd c1 (by decide)
  · refine lv_iload_n hx hb d_M_batch_10 rfl (lv_at hl 2 rfl) ?_
    refine lv_if_eq (tgt := 19) hx hb d_M_batch_11 (by decide) (fun c2 => ?_) (fun c2 => ?_)
    · exact absurd c2 (by decide)
    · refine lv_iload_n hx hb d_M_batch_14 rfl (lv_at hl 2 rfl) ?_
      refine lv_iconst (v := nI 1) hx hb d_M_batch_15 (by decide) ?_
      refine lv_icmp_ne (tgt := 23) hx hb d_M_batch_16 (by decide) (fun c3 => ?_) (fun c3 => ?_)
      · replace c3 := mt (nI_eq (by omega) (by omega)).mpr c3
        exact absurd rfl c3
      · replace c3 := (nI_eq (by omega) (by omega)).mp c3
        refine lv_iconst (v := nI 1) hx hb d_M_batch_19 (by decide) ?_
        refine lv_goto (tgt := 24) hx hb d_M_batch_20 (by decide) ?_
        refine mu_calli (va_runV (As := [.int (nI 1)]) (rest := []) ⟨hx, hb, hml, hown, hts⟩ (m_goes_y l dC dI ad cI cJ cd n tc ki ra po se bc bs op pr pe pm _ ) (cwV 1 hts (wAll_v kw_338 kw_340 ks_12 kw_2 kw_341) rfl rfl rfl (by decide +kernel) ⟨Nat.le_of_ble_eq_true rfl, Nat.le_of_ble_eq_true rfl⟩) (mu_preV hK hP hD (ci := 1) (q0 := 0) rfl rfl) rfl rfl hl.1 rfl (lv_room (Nat.le_of_ble_eq_true rfl)) d_M_batch_24 ⟨Nat.le_of_ble_eq_true rfl, Nat.le_of_ble_eq_true rfl⟩) hD hS hA (fun r H locs hq hP hD hS => ?_)
        obtain rfl := hq
        have hP : va_P (dC, dI) vwCl (md_w ad cI cJ 0 n tc ki ra po se bc bs op pr pe pm) H := hP
        have hD : va_D A (md_w ad cI cJ 0 n tc ki ra po se bc bs op pr pe pm) := hD
        refine lv_if_ne (tgt := 32) hx hb d_M_batch_27 (by decide) (fun c4 => ?_) (fun c4 => ?_)
        · refine lv_iload_n hx hb d_M_batch_32 rfl (lv_at hl 2 rfl) ?_
          refine lv_if_ne (tgt := 46) hx hb d_M_batch_33 (by decide) (fun c5 => ?_) (fun c5 => ?_)
          · refine lv_aload_n hx hb d_M_batch_46 rfl (lv_at hl 0 rfl) ?_
            refine va_get (D := (dC, dI)) (ci := 1) (v := .ref (ad 6)) (C := "ClearingBooksModel") (T := T_M) (N := 13) hx hb hts wi_M hown hK hP 0 rfl rfl 7 (by decide) (hts _ kw_280) (fun _ h9 => h9) rfl d_M_batch_47 ?_
            refine lv_iload_n hx hb d_M_batch_50 rfl (lv_at hl 1 rfl) ?_
            refine xa_laload (f := bs) hx hb hK hP 6 1 rfl rfl (j := i) (by omega) (by decide) d_M_batch_51 ?_
            exact W.lret (v := bs i) hx hb hr (fun t ht hW => ⟨⟨bs i, (), rfl, rfl, by rw [ht]; exact hP, va_K.moved hW.alike hK, hD⟩, hS.F ht⟩) hS.2.2 d_M_batch_52
          · exact absurd c5 (by decide)
        · exact absurd c4 (by decide)
set_option maxHeartbeats 4000000 in
set_option maxRecDepth 100000 in
theorem m_batch_tk (l : Launch) (dC : Nat → ClassId) (dI : Nat → Nat → Nat) (ad : Nat → Nat) (cI cJ : ClassId) (cd n tc : Nat) (ki ra : Nat → Int32) (po se : Nat → Int64) (bc : Nat → Int32) (bs op : Nat → Int64) (pr pe : Nat → Int32) (pm : Nat → Int64) (sz : Nat) (x k : Int32) (hn : n ≤ 15) (hno : ¬ is_k n ki x (nI 1)) : Met l y_M_batch (.code y_M_batch b_M_batch 3 (some .long) :: wAll) ({ frames := 1, cells := 0, slots := 0, locals := 22 } : Room) (mu_P [.ref (ad 0), .int x, .int k] (dC, dI) vwCl [(cI, .int), (cJ, .long)] (md_w ad cI cJ cd n tc ki ra po se bc bs op pr pe pm) sz) (va_Ql (fun (z : Int64) (_ : Unit) => z = 0) (mu_B (dC, dI) vwCl [(cI, .int), (cJ, .long)] (va_A (md_w ad cI cJ cd n tc ki ra po se bc bs op pr pe pm) sz) (md_w ad cI cJ 1 n tc ki ra po se bc bs op pr pe pm)) (va_A (md_w ad cI cJ cd n tc ki ra po se bc bs op pr pe pm) sz)) 0 0 (va_A (md_w ad cI cJ cd n tc ki ra po se bc bs op pr pe pm) sz) := by
  refine Met.ofW (cc := b_M_batch) (maxL := 3) (ret := (some .long)) (by decide) rfl ?_
  intro p e s m args below meth c s₁ B hml hv
  obtain ⟨rfl, hsz, hP, hK, hD0⟩ := hv
  have hx := B.exec
  have hb := B.bytes
  have hr := B.returns
  have hts0 := atoms_spec (ws := (.code y_M_batch b_M_batch 3 (some .long) :: wAll)) B.pre
  have hts := hts_all hts0
  have hown : s.vm.findClass "ClearingBooksModel" = some m.cls := findClass_of_methodNamed B.named
  have hlocks := B.notSynchronized
  subst hsz
  have hD := hD0.self (sz := s.heap.size)
  generalize hAe : va_A (md_w ad cI cJ cd n tc ki ra po se bc bs op pr pe pm) s.heap.size = A at hD ⊢
  have hA : ∀ q : Nat, s.heap.size ≤ q → A q := fun q h => by rw [← hAe]; exact Or.inr h
  have hS : va_S A s.heap s.heap [] := va_S.rf
  have hl := lv_entry ([.ref (ad 0), .int x, .int k]) (n := 3) (Nat.le_of_ble_eq_true rfl)
  rw [lg_entry_eq]
  generalize (lg_sl ([.ref (ad 0), .int x, .int k]) ++ List.replicate (3 - (lg_sl ([.ref (ad 0), .int x, .int k])).length) Slot.unset).toArray = ls at hl ⊢
  have hl : lv_has ls 3 [(0, .ref (ad 0)), (1, .int x), (2, .int k)] := hl
  refine lv_aload_n hx hb d_M_batch_0 rfl (lv_at hl 0 rfl) ?_
  refine lv_aload_n hx hb d_M_batch_1 rfl (lv_at hl 0 rfl) ?_
  refine lv_iload_n hx hb d_M_batch_2 rfl (lv_at hl 1 rfl) ?_
  refine lv_iconst (v := nI 1) hx hb d_M_batch_3 (by decide) ?_
  refine ro_call (va_runV (As := [.int x, .int (nI 1)]) (rest := [.ref (ad 0)]) ⟨hx, hb, hml, hown, hts⟩ (m_is_n l dC dI ad cI cJ cd n tc ki ra po se bc bs op pr pe pm x (nI 1) hn hno) (cwV 2 hts (wAll_v kw_333 kw_335 ks_11 kw_2 kw_336) rfl rfl rfl (by decide +kernel) ⟨Nat.le_of_ble_eq_true rfl, Nat.le_of_ble_eq_true rfl⟩) (ro_preV bl_tt hK hP (ci := 1) (q0 := 0) rfl rfl (fun _ _ _ => trivial)) rfl rfl hl.1 rfl (lv_room (Nat.le_of_ble_eq_true rfl)) d_M_batch_4 ⟨Nat.le_of_ble_eq_true rfl, Nat.le_of_ble_eq_true rfl⟩) ?_
  refine W.eq (g2 := F0 m 7 ls [.int (nI 0), .ref (ad 0)]) rfl ?_
  refine lv_if_eq (tgt := 23) hx hb d_M_batch_7 (by decide) (fun c1 => ?_) (fun c1 => ?_)
  · refine lv_iconst (v := nI 0) hx hb d_M_batch_23 (by decide) ?_
    refine mu_calli (va_runV (As := [.int (nI 0)]) (rest := []) ⟨hx, hb, hml, hown, hts⟩ (m_goes_n l dC dI ad cI cJ cd n tc ki ra po se bc bs op pr pe pm _ ) (cwV 1 hts (wAll_v kw_338 kw_340 ks_12 kw_2 kw_341) rfl rfl rfl (by decide +kernel) ⟨Nat.le_of_ble_eq_true rfl, Nat.le_of_ble_eq_true rfl⟩) (mu_preV hK hP hD (ci := 1) (q0 := 0) rfl rfl) rfl rfl hl.1 rfl (lv_room (Nat.le_of_ble_eq_true rfl)) d_M_batch_24 ⟨Nat.le_of_ble_eq_true rfl, Nat.le_of_ble_eq_true rfl⟩) hD hS hA (fun r H locs hq hP hD hS => ?_)
    obtain rfl := hq
    have hP : va_P (dC, dI) vwCl (md_w ad cI cJ 1 n tc ki ra po se bc bs op pr pe pm) H := hP
    have hD : va_D A (md_w ad cI cJ 1 n tc ki ra po se bc bs op pr pe pm) := hD
    refine lv_if_ne (tgt := 32) hx hb d_M_batch_27 (by decide) (fun c2 => ?_) (fun c2 => ?_)
    · exact absurd rfl c2
    · refine lv_lconst (v := 0) hx hb d_M_batch_30 (by decide) ?_
      exact W.lret (v := 0) hx hb hr (fun t ht hW => ⟨⟨0, (), rfl, rfl, by rw [ht]; exact hP, va_K.moved hW.alike hK, hD⟩, hS.F ht⟩) hS.2.2 d_M_batch_31
  · exact absurd rfl c1
set_option maxHeartbeats 4000000 in
set_option maxRecDepth 100000 in
theorem m_batch_tw (l : Launch) (dC : Nat → ClassId) (dI : Nat → Nat → Nat) (ad : Nat → Nat) (cI cJ : ClassId) (cd n tc : Nat) (ki ra : Nat → Int32) (po se : Nat → Int64) (bc : Nat → Int32) (bs op : Nat → Int64) (pr pe : Nat → Int32) (pm : Nat → Int64) (sz : Nat) (i : Nat) (k : Int32) (h0i : 0 < i) (hji : i < n) (hn : n ≤ 15) (hki : ki i = nI 1) (hw0 : ¬ k = nI 0) (hw1 : ¬ k = nI 1) : Met l y_M_batch (.code y_M_batch b_M_batch 3 (some .long) :: wAll) ({ frames := 1, cells := 0, slots := 0, locals := 22 } : Room) (mu_P [.ref (ad 0), .int (nI i), .int k] (dC, dI) vwCl [(cI, .int), (cJ, .long)] (md_w ad cI cJ cd n tc ki ra po se bc bs op pr pe pm) sz) (va_Ql (fun (z : Int64) (_ : Unit) => z = 0) (mu_B (dC, dI) vwCl [(cI, .int), (cJ, .long)] (va_A (md_w ad cI cJ cd n tc ki ra po se bc bs op pr pe pm) sz) (md_w ad cI cJ 1 n tc ki ra po se bc bs op pr pe pm)) (va_A (md_w ad cI cJ cd n tc ki ra po se bc bs op pr pe pm) sz)) 0 0 (va_A (md_w ad cI cJ cd n tc ki ra po se bc bs op pr pe pm) sz) := by
  refine Met.ofW (cc := b_M_batch) (maxL := 3) (ret := (some .long)) (by decide) rfl ?_
  intro p e s m args below meth c s₁ B hml hv
  obtain ⟨rfl, hsz, hP, hK, hD0⟩ := hv
  have hx := B.exec
  have hb := B.bytes
  have hr := B.returns
  have hts0 := atoms_spec (ws := (.code y_M_batch b_M_batch 3 (some .long) :: wAll)) B.pre
  have hts := hts_all hts0
  have hown : s.vm.findClass "ClearingBooksModel" = some m.cls := findClass_of_methodNamed B.named
  have hlocks := B.notSynchronized
  subst hsz
  have hD := hD0.self (sz := s.heap.size)
  generalize hAe : va_A (md_w ad cI cJ cd n tc ki ra po se bc bs op pr pe pm) s.heap.size = A at hD ⊢
  have hA : ∀ q : Nat, s.heap.size ≤ q → A q := fun q h => by rw [← hAe]; exact Or.inr h
  have hS : va_S A s.heap s.heap [] := va_S.rf
  have hl := lv_entry ([.ref (ad 0), .int (nI i), .int k]) (n := 3) (Nat.le_of_ble_eq_true rfl)
  rw [lg_entry_eq]
  generalize (lg_sl ([.ref (ad 0), .int (nI i), .int k]) ++ List.replicate (3 - (lg_sl ([.ref (ad 0), .int (nI i), .int k])).length) Slot.unset).toArray = ls at hl ⊢
  have hl : lv_has ls 3 [(0, .ref (ad 0)), (1, .int (nI i)), (2, .int k)] := hl
  refine lv_aload_n hx hb d_M_batch_0 rfl (lv_at hl 0 rfl) ?_
  refine lv_aload_n hx hb d_M_batch_1 rfl (lv_at hl 0 rfl) ?_
  refine lv_iload_n hx hb d_M_batch_2 rfl (lv_at hl 1 rfl) ?_
  refine lv_iconst (v := nI 1) hx hb d_M_batch_3 (by decide) ?_
  refine ro_call (va_runV (As := [.int (nI i), .int (nI 1)]) (rest := [.ref (ad 0)]) ⟨hx, hb, hml, hown, hts⟩ (m_is_y l dC dI ad cI cJ cd n tc ki ra po se bc bs op pr pe pm i (nI 1) h0i hji hn hki) (cwV 2 hts (wAll_v kw_333 kw_335 ks_11 kw_2 kw_336) rfl rfl rfl (by decide +kernel) ⟨Nat.le_of_ble_eq_true rfl, Nat.le_of_ble_eq_true rfl⟩) (ro_preV bl_tt hK hP (ci := 1) (q0 := 0) rfl rfl (fun _ _ _ => trivial)) rfl rfl hl.1 rfl (lv_room (Nat.le_of_ble_eq_true rfl)) d_M_batch_4 ⟨Nat.le_of_ble_eq_true rfl, Nat.le_of_ble_eq_true rfl⟩) ?_
  refine W.eq (g2 := F0 m 7 ls [.int (nI 1), .ref (ad 0)]) rfl ?_
  refine lv_if_eq (tgt := 23) hx hb d_M_batch_7 (by decide) (fun c1 => ?_) (fun c1 => ?_)
  · exact absurd c1 (by decide)
  · refine lv_iload_n hx hb d_M_batch_10 rfl (lv_at hl 2 rfl) ?_
    refine lv_if_eq (tgt := 19) hx hb d_M_batch_11 (by decide) (fun c2 => ?_) (fun c2 => ?_)
    · exact absurd c2 hw0
    · refine lv_iload_n hx hb d_M_batch_14 rfl (lv_at hl 2 rfl) ?_
      refine lv_iconst (v := nI 1) hx hb d_M_batch_15 (by decide) ?_
      refine lv_icmp_ne (tgt := 23) hx hb d_M_batch_16 (by decide) (fun c3 => ?_) (fun c3 => ?_)
      · refine lv_iconst (v := nI 0) hx hb d_M_batch_23 (by decide) ?_
        refine mu_calli (va_runV (As := [.int (nI 0)]) (rest := []) ⟨hx, hb, hml, hown, hts⟩ (m_goes_n l dC dI ad cI cJ cd n tc ki ra po se bc bs op pr pe pm _ ) (cwV 1 hts (wAll_v kw_338 kw_340 ks_12 kw_2 kw_341) rfl rfl rfl (by decide +kernel) ⟨Nat.le_of_ble_eq_true rfl, Nat.le_of_ble_eq_true rfl⟩) (mu_preV hK hP hD (ci := 1) (q0 := 0) rfl rfl) rfl rfl hl.1 rfl (lv_room (Nat.le_of_ble_eq_true rfl)) d_M_batch_24 ⟨Nat.le_of_ble_eq_true rfl, Nat.le_of_ble_eq_true rfl⟩) hD hS hA (fun r H locs hq hP hD hS => ?_)
        obtain rfl := hq
        have hP : va_P (dC, dI) vwCl (md_w ad cI cJ 1 n tc ki ra po se bc bs op pr pe pm) H := hP
        have hD : va_D A (md_w ad cI cJ 1 n tc ki ra po se bc bs op pr pe pm) := hD
        refine lv_if_ne (tgt := 32) hx hb d_M_batch_27 (by decide) (fun c4 => ?_) (fun c4 => ?_)
        · exact absurd rfl c4
        · refine lv_lconst (v := 0) hx hb d_M_batch_30 (by decide) ?_
          exact W.lret (v := 0) hx hb hr (fun t ht hW => ⟨⟨0, (), rfl, rfl, by rw [ht]; exact hP, va_K.moved hW.alike hK, hD⟩, hS.F ht⟩) hS.2.2 d_M_batch_31
      · exact absurd c3 hw1
set_option maxHeartbeats 4000000 in
set_option maxRecDepth 100000 in
theorem m_transfer_y0 (l : Launch) (dC : Nat → ClassId) (dI : Nat → Nat → Nat) (ad : Nat → Nat) (cI cJ : ClassId) (cd n tc : Nat) (ki ra : Nat → Int32) (po se : Nat → Int64) (bc : Nat → Int32) (bs op : Nat → Int64) (pr pe : Nat → Int32) (pm : Nat → Int64) (sz : Nat) (i : Nat) (hi : i < tc) (htc : tc ≤ 14) : Met l y_M_transfer (.code y_M_transfer b_M_transfer 3 (some .long) :: wAll) ({ frames := 1, cells := 0, slots := 0, locals := 21 } : Room) (mu_P [.ref (ad 0), .int (nI i), .int (nI 0)] (dC, dI) vwCl [(cI, .int), (cJ, .long)] (md_w ad cI cJ cd n tc ki ra po se bc bs op pr pe pm) sz) (va_Ql (fun (z : Int64) (_ : Unit) => z = (pr i).toInt64) (mu_B (dC, dI) vwCl [(cI, .int), (cJ, .long)] (va_A (md_w ad cI cJ cd n tc ki ra po se bc bs op pr pe pm) sz) (md_w ad cI cJ 0 n tc ki ra po se bc bs op pr pe pm)) (va_A (md_w ad cI cJ cd n tc ki ra po se bc bs op pr pe pm) sz)) 0 0 (va_A (md_w ad cI cJ cd n tc ki ra po se bc bs op pr pe pm) sz) := by
  refine Met.ofW (cc := b_M_transfer) (maxL := 3) (ret := (some .long)) (by decide) rfl ?_
  intro p e s m args below meth c s₁ B hml hv
  obtain ⟨rfl, hsz, hP, hK, hD0⟩ := hv
  have hx := B.exec
  have hb := B.bytes
  have hr := B.returns
  have hts0 := atoms_spec (ws := (.code y_M_transfer b_M_transfer 3 (some .long) :: wAll)) B.pre
  have hts := hts_all hts0
  have hown : s.vm.findClass "ClearingBooksModel" = some m.cls := findClass_of_methodNamed B.named
  have hlocks := B.notSynchronized
  subst hsz
  have hD := hD0.self (sz := s.heap.size)
  generalize hAe : va_A (md_w ad cI cJ cd n tc ki ra po se bc bs op pr pe pm) s.heap.size = A at hD ⊢
  have hA : ∀ q : Nat, s.heap.size ≤ q → A q := fun q h => by rw [← hAe]; exact Or.inr h
  have hS : va_S A s.heap s.heap [] := va_S.rf
  have hl := lv_entry ([.ref (ad 0), .int (nI i), .int (nI 0)]) (n := 3) (Nat.le_of_ble_eq_true rfl)
  rw [lg_entry_eq]
  generalize (lg_sl ([.ref (ad 0), .int (nI i), .int (nI 0)]) ++ List.replicate (3 - (lg_sl ([.ref (ad 0), .int (nI i), .int (nI 0)])).length) Slot.unset).toArray = ls at hl ⊢
  have hl : lv_has ls 3 [(0, .ref (ad 0)), (1, .int (nI i)), (2, .int (nI 0))] := hl
  refine lv_aload_n hx hb d_M_transfer_0 rfl (lv_at hl 0 rfl) ?_
  refine lv_iload_n hx hb d_M_transfer_1 rfl (lv_at hl 1 rfl) ?_
  refine lv_if_lt (tgt := 26) hx hb d_M_transfer_2 (by decide) (fun c1 => ?_) (fun c1 => ?_)
  · exact absurd c1 (nI_pos (by omega))
  · refine lv_iload_n hx hb d_M_transfer_5 rfl (lv_at hl 1 rfl) ?_
    refine lv_aload_n hx hb d_M_transfer_6 rfl (lv_at hl 0 rfl) ?_
    refine va_get (D := (dC, dI)) (ci := 1) (v := .int (nI tc)) (C := "ClearingBooksModel") (T := T_M) (N := 13) hx hb hts wi_M hown hK hP 0 rfl rfl 9 (by decide) (hts _ kw_282) (fun _ h9 => h9) rfl d_M_transfer_7 ?_
    refine lv_icmp_ge (tgt := 26) hx hb d_M_transfer_10 (by decide) (fun c2 => ?_) (fun c2 => ?_)
    · replace c2 := (nI_leI (by omega) (by omega)).mp c2
      exfalso; omega
    · replace c2 := mt (nI_leI (by omega) (by omega)).mpr c2
      refine lv_iload_n hx hb d_M_transfer_13 rfl (lv_at hl 2 rfl) ?_
      refine lv_if_lt (tgt := 26) hx hb d_M_transfer_14 (by decide) (fun c3 => ?_) (fun c3 => ?_)
      · exact absurd c3 (by decide)
      · refine lv_iload_n hx hb d_M_transfer_17 rfl (lv_at hl 2 rfl) ?_
        refine lv_iconst (v := nI 2) hx hb d_M_transfer_18 (by decide) ?_
        refine lv_icmp_gt (tgt := 26) hx hb d_M_transfer_19 (by decide) (fun c4 => ?_) (fun c4 => ?_)
        · replace c4 := (nI_ltI (by omega) (by omega)).mp c4
          exfalso; omega
        · replace c4 := mt (nI_ltI (by omega) (by omega)).mpr c4
          refine lv_iconst (v := nI 1) hx hb d_M_transfer_22 (by decide) ?_
          refine lv_goto (tgt := 27) hx hb d_M_transfer_23 (by decide) ?_
          refine mu_calli (va_runV (As := [.int (nI 1)]) (rest := []) ⟨hx, hb, hml, hown, hts⟩ (m_goes_y l dC dI ad cI cJ cd n tc ki ra po se bc bs op pr pe pm _ ) (cwV 1 hts (wAll_v kw_338 kw_340 ks_12 kw_2 kw_341) rfl rfl rfl (by decide +kernel) ⟨Nat.le_of_ble_eq_true rfl, Nat.le_of_ble_eq_true rfl⟩) (mu_preV hK hP hD (ci := 1) (q0 := 0) rfl rfl) rfl rfl hl.1 rfl (lv_room (Nat.le_of_ble_eq_true rfl)) d_M_transfer_27 ⟨Nat.le_of_ble_eq_true rfl, Nat.le_of_ble_eq_true rfl⟩) hD hS hA (fun r H locs hq hP hD hS => ?_)
          obtain rfl := hq
          have hP : va_P (dC, dI) vwCl (md_w ad cI cJ 0 n tc ki ra po se bc bs op pr pe pm) H := hP
          have hD : va_D A (md_w ad cI cJ 0 n tc ki ra po se bc bs op pr pe pm) := hD
          refine lv_if_ne (tgt := 35) hx hb d_M_transfer_30 (by decide) (fun c5 => ?_) (fun c5 => ?_)
          · refine lv_iload_n hx hb d_M_transfer_35 rfl (lv_at hl 2 rfl) ?_
            refine lv_if_ne (tgt := 49) hx hb d_M_transfer_36 (by decide) (fun c6 => ?_) (fun c6 => ?_)
            · exact absurd rfl c6
            · refine lv_aload_n hx hb d_M_transfer_39 rfl (lv_at hl 0 rfl) ?_
              refine va_get (D := (dC, dI)) (ci := 1) (v := .ref (ad 8)) (C := "ClearingBooksModel") (T := T_M) (N := 13) hx hb hts wi_M hown hK hP 0 rfl rfl 10 (by decide) (hts _ kw_283) (fun _ h9 => h9) rfl d_M_transfer_40 ?_
              refine lv_iload_n hx hb d_M_transfer_43 rfl (lv_at hl 1 rfl) ?_
              refine xa_iaload (f := pr) hx hb hK hP 8 0 rfl rfl (j := i) (by omega) (by decide) d_M_transfer_44 ?_
              refine lv_i2l (v := (pr i).toInt64) hx hb d_M_transfer_45 rfl ?_
              refine lv_goto (tgt := 70) hx hb d_M_transfer_46 (by decide) ?_
              exact W.lret (v := (pr i).toInt64) hx hb hr (fun t ht hW => ⟨⟨(pr i).toInt64, (), rfl, rfl, by rw [ht]; exact hP, va_K.moved hW.alike hK, hD⟩, hS.F ht⟩) hS.2.2 d_M_transfer_70
          · exact absurd c5 (by decide)
set_option maxHeartbeats 4000000 in
set_option maxRecDepth 100000 in
theorem m_transfer_y1 (l : Launch) (dC : Nat → ClassId) (dI : Nat → Nat → Nat) (ad : Nat → Nat) (cI cJ : ClassId) (cd n tc : Nat) (ki ra : Nat → Int32) (po se : Nat → Int64) (bc : Nat → Int32) (bs op : Nat → Int64) (pr pe : Nat → Int32) (pm : Nat → Int64) (sz : Nat) (i : Nat) (hi : i < tc) (htc : tc ≤ 14) : Met l y_M_transfer (.code y_M_transfer b_M_transfer 3 (some .long) :: wAll) ({ frames := 1, cells := 0, slots := 0, locals := 21 } : Room) (mu_P [.ref (ad 0), .int (nI i), .int (nI 1)] (dC, dI) vwCl [(cI, .int), (cJ, .long)] (md_w ad cI cJ cd n tc ki ra po se bc bs op pr pe pm) sz) (va_Ql (fun (z : Int64) (_ : Unit) => z = (pe i).toInt64) (mu_B (dC, dI) vwCl [(cI, .int), (cJ, .long)] (va_A (md_w ad cI cJ cd n tc ki ra po se bc bs op pr pe pm) sz) (md_w ad cI cJ 0 n tc ki ra po se bc bs op pr pe pm)) (va_A (md_w ad cI cJ cd n tc ki ra po se bc bs op pr pe pm) sz)) 0 0 (va_A (md_w ad cI cJ cd n tc ki ra po se bc bs op pr pe pm) sz) := by
  refine Met.ofW (cc := b_M_transfer) (maxL := 3) (ret := (some .long)) (by decide) rfl ?_
  intro p e s m args below meth c s₁ B hml hv
  obtain ⟨rfl, hsz, hP, hK, hD0⟩ := hv
  have hx := B.exec
  have hb := B.bytes
  have hr := B.returns
  have hts0 := atoms_spec (ws := (.code y_M_transfer b_M_transfer 3 (some .long) :: wAll)) B.pre
  have hts := hts_all hts0
  have hown : s.vm.findClass "ClearingBooksModel" = some m.cls := findClass_of_methodNamed B.named
  have hlocks := B.notSynchronized
  subst hsz
  have hD := hD0.self (sz := s.heap.size)
  generalize hAe : va_A (md_w ad cI cJ cd n tc ki ra po se bc bs op pr pe pm) s.heap.size = A at hD ⊢
  have hA : ∀ q : Nat, s.heap.size ≤ q → A q := fun q h => by rw [← hAe]; exact Or.inr h
  have hS : va_S A s.heap s.heap [] := va_S.rf
  have hl := lv_entry ([.ref (ad 0), .int (nI i), .int (nI 1)]) (n := 3) (Nat.le_of_ble_eq_true rfl)
  rw [lg_entry_eq]
  generalize (lg_sl ([.ref (ad 0), .int (nI i), .int (nI 1)]) ++ List.replicate (3 - (lg_sl ([.ref (ad 0), .int (nI i), .int (nI 1)])).length) Slot.unset).toArray = ls at hl ⊢
  have hl : lv_has ls 3 [(0, .ref (ad 0)), (1, .int (nI i)), (2, .int (nI 1))] := hl
  refine lv_aload_n hx hb d_M_transfer_0 rfl (lv_at hl 0 rfl) ?_
  refine lv_iload_n hx hb d_M_transfer_1 rfl (lv_at hl 1 rfl) ?_
  refine lv_if_lt (tgt := 26) hx hb d_M_transfer_2 (by decide) (fun c1 => ?_) (fun c1 => ?_)
  · exact absurd c1 (nI_pos (by omega))
  · refine lv_iload_n hx hb d_M_transfer_5 rfl (lv_at hl 1 rfl) ?_
    refine lv_aload_n hx hb d_M_transfer_6 rfl (lv_at hl 0 rfl) ?_
    refine va_get (D := (dC, dI)) (ci := 1) (v := .int (nI tc)) (C := "ClearingBooksModel") (T := T_M) (N := 13) hx hb hts wi_M hown hK hP 0 rfl rfl 9 (by decide) (hts _ kw_282) (fun _ h9 => h9) rfl d_M_transfer_7 ?_
    refine lv_icmp_ge (tgt := 26) hx hb d_M_transfer_10 (by decide) (fun c2 => ?_) (fun c2 => ?_)
    · replace c2 := (nI_leI (by omega) (by omega)).mp c2
      exfalso; omega
    · replace c2 := mt (nI_leI (by omega) (by omega)).mpr c2
      refine lv_iload_n hx hb d_M_transfer_13 rfl (lv_at hl 2 rfl) ?_
      refine lv_if_lt (tgt := 26) hx hb d_M_transfer_14 (by decide) (fun c3 => ?_) (fun c3 => ?_)
      · exact absurd c3 (by decide)
      · refine lv_iload_n hx hb d_M_transfer_17 rfl (lv_at hl 2 rfl) ?_
        refine lv_iconst (v := nI 2) hx hb d_M_transfer_18 (by decide) ?_
        refine lv_icmp_gt (tgt := 26) hx hb d_M_transfer_19 (by decide) (fun c4 => ?_) (fun c4 => ?_)
        · replace c4 := (nI_ltI (by omega) (by omega)).mp c4
          exfalso; omega
        · replace c4 := mt (nI_ltI (by omega) (by omega)).mpr c4
          refine lv_iconst (v := nI 1) hx hb d_M_transfer_22 (by decide) ?_
          refine lv_goto (tgt := 27) hx hb d_M_transfer_23 (by decide) ?_
          refine mu_calli (va_runV (As := [.int (nI 1)]) (rest := []) ⟨hx, hb, hml, hown, hts⟩ (m_goes_y l dC dI ad cI cJ cd n tc ki ra po se bc bs op pr pe pm _ ) (cwV 1 hts (wAll_v kw_338 kw_340 ks_12 kw_2 kw_341) rfl rfl rfl (by decide +kernel) ⟨Nat.le_of_ble_eq_true rfl, Nat.le_of_ble_eq_true rfl⟩) (mu_preV hK hP hD (ci := 1) (q0 := 0) rfl rfl) rfl rfl hl.1 rfl (lv_room (Nat.le_of_ble_eq_true rfl)) d_M_transfer_27 ⟨Nat.le_of_ble_eq_true rfl, Nat.le_of_ble_eq_true rfl⟩) hD hS hA (fun r H locs hq hP hD hS => ?_)
          obtain rfl := hq
          have hP : va_P (dC, dI) vwCl (md_w ad cI cJ 0 n tc ki ra po se bc bs op pr pe pm) H := hP
          have hD : va_D A (md_w ad cI cJ 0 n tc ki ra po se bc bs op pr pe pm) := hD
          refine lv_if_ne (tgt := 35) hx hb d_M_transfer_30 (by decide) (fun c5 => ?_) (fun c5 => ?_)
          · refine lv_iload_n hx hb d_M_transfer_35 rfl (lv_at hl 2 rfl) ?_
            refine lv_if_ne (tgt := 49) hx hb d_M_transfer_36 (by decide) (fun c6 => ?_) (fun c6 => ?_)
            · refine lv_iload_n hx hb d_M_transfer_49 rfl (lv_at hl 2 rfl) ?_
              refine lv_iconst (v := nI 1) hx hb d_M_transfer_50 (by decide) ?_
              refine lv_icmp_ne (tgt := 64) hx hb d_M_transfer_51 (by decide) (fun c7 => ?_) (fun c7 => ?_)
              · replace c7 := mt (nI_eq (by omega) (by omega)).mpr c7
                exact absurd rfl c7
              · replace c7 := (nI_eq (by omega) (by omega)).mp c7
                refine lv_aload_n hx hb d_M_transfer_54 rfl (lv_at hl 0 rfl) ?_
                refine va_get (D := (dC, dI)) (ci := 1) (v := .ref (ad 9)) (C := "ClearingBooksModel") (T := T_M) (N := 13) hx hb hts wi_M hown hK hP 0 rfl rfl 11 (by decide) (hts _ kw_284) (fun _ h9 => h9) rfl d_M_transfer_55 ?_
                refine lv_iload_n hx hb d_M_transfer_58 rfl (lv_at hl 1 rfl) ?_
                refine xa_iaload (f := pe) hx hb hK hP 9 0 rfl rfl (j := i) (by omega) (by decide) d_M_transfer_59 ?_
                refine lv_i2l (v := (pe i).toInt64) hx hb d_M_transfer_60 rfl ?_
                refine lv_goto (tgt := 70) hx hb d_M_transfer_61 (by decide) ?_
                exact W.lret (v := (pe i).toInt64) hx hb hr (fun t ht hW => ⟨⟨(pe i).toInt64, (), rfl, rfl, by rw [ht]; exact hP, va_K.moved hW.alike hK, hD⟩, hS.F ht⟩) hS.2.2 d_M_transfer_70
            · exact absurd c6 (by decide)
          · exact absurd c5 (by decide)
set_option maxHeartbeats 4000000 in
set_option maxRecDepth 100000 in
theorem m_transfer_y2 (l : Launch) (dC : Nat → ClassId) (dI : Nat → Nat → Nat) (ad : Nat → Nat) (cI cJ : ClassId) (cd n tc : Nat) (ki ra : Nat → Int32) (po se : Nat → Int64) (bc : Nat → Int32) (bs op : Nat → Int64) (pr pe : Nat → Int32) (pm : Nat → Int64) (sz : Nat) (i : Nat) (hi : i < tc) (htc : tc ≤ 14) : Met l y_M_transfer (.code y_M_transfer b_M_transfer 3 (some .long) :: wAll) ({ frames := 1, cells := 0, slots := 0, locals := 21 } : Room) (mu_P [.ref (ad 0), .int (nI i), .int (nI 2)] (dC, dI) vwCl [(cI, .int), (cJ, .long)] (md_w ad cI cJ cd n tc ki ra po se bc bs op pr pe pm) sz) (va_Ql (fun (z : Int64) (_ : Unit) => z = pm i) (mu_B (dC, dI) vwCl [(cI, .int), (cJ, .long)] (va_A (md_w ad cI cJ cd n tc ki ra po se bc bs op pr pe pm) sz) (md_w ad cI cJ 0 n tc ki ra po se bc bs op pr pe pm)) (va_A (md_w ad cI cJ cd n tc ki ra po se bc bs op pr pe pm) sz)) 0 0 (va_A (md_w ad cI cJ cd n tc ki ra po se bc bs op pr pe pm) sz) := by
  refine Met.ofW (cc := b_M_transfer) (maxL := 3) (ret := (some .long)) (by decide) rfl ?_
  intro p e s m args below meth c s₁ B hml hv
  obtain ⟨rfl, hsz, hP, hK, hD0⟩ := hv
  have hx := B.exec
  have hb := B.bytes
  have hr := B.returns
  have hts0 := atoms_spec (ws := (.code y_M_transfer b_M_transfer 3 (some .long) :: wAll)) B.pre
  have hts := hts_all hts0
  have hown : s.vm.findClass "ClearingBooksModel" = some m.cls := findClass_of_methodNamed B.named
  have hlocks := B.notSynchronized
  subst hsz
  have hD := hD0.self (sz := s.heap.size)
  generalize hAe : va_A (md_w ad cI cJ cd n tc ki ra po se bc bs op pr pe pm) s.heap.size = A at hD ⊢
  have hA : ∀ q : Nat, s.heap.size ≤ q → A q := fun q h => by rw [← hAe]; exact Or.inr h
  have hS : va_S A s.heap s.heap [] := va_S.rf
  have hl := lv_entry ([.ref (ad 0), .int (nI i), .int (nI 2)]) (n := 3) (Nat.le_of_ble_eq_true rfl)
  rw [lg_entry_eq]
  generalize (lg_sl ([.ref (ad 0), .int (nI i), .int (nI 2)]) ++ List.replicate (3 - (lg_sl ([.ref (ad 0), .int (nI i), .int (nI 2)])).length) Slot.unset).toArray = ls at hl ⊢
  have hl : lv_has ls 3 [(0, .ref (ad 0)), (1, .int (nI i)), (2, .int (nI 2))] := hl
  refine lv_aload_n hx hb d_M_transfer_0 rfl (lv_at hl 0 rfl) ?_
  refine lv_iload_n hx hb d_M_transfer_1 rfl (lv_at hl 1 rfl) ?_
  refine lv_if_lt (tgt := 26) hx hb d_M_transfer_2 (by decide) (fun c1 => ?_) (fun c1 => ?_)
  · exact absurd c1 (nI_pos (by omega))
  · refine lv_iload_n hx hb d_M_transfer_5 rfl (lv_at hl 1 rfl) ?_
    refine lv_aload_n hx hb d_M_transfer_6 rfl (lv_at hl 0 rfl) ?_
    refine va_get (D := (dC, dI)) (ci := 1) (v := .int (nI tc)) (C := "ClearingBooksModel") (T := T_M) (N := 13) hx hb hts wi_M hown hK hP 0 rfl rfl 9 (by decide) (hts _ kw_282) (fun _ h9 => h9) rfl d_M_transfer_7 ?_
    refine lv_icmp_ge (tgt := 26) hx hb d_M_transfer_10 (by decide) (fun c2 => ?_) (fun c2 => ?_)
    · replace c2 := (nI_leI (by omega) (by omega)).mp c2
      exfalso; omega
    · replace c2 := mt (nI_leI (by omega) (by omega)).mpr c2
      refine lv_iload_n hx hb d_M_transfer_13 rfl (lv_at hl 2 rfl) ?_
      refine lv_if_lt (tgt := 26) hx hb d_M_transfer_14 (by decide) (fun c3 => ?_) (fun c3 => ?_)
      · exact absurd c3 (by decide)
      · refine lv_iload_n hx hb d_M_transfer_17 rfl (lv_at hl 2 rfl) ?_
        refine lv_iconst (v := nI 2) hx hb d_M_transfer_18 (by decide) ?_
        refine lv_icmp_gt (tgt := 26) hx hb d_M_transfer_19 (by decide) (fun c4 => ?_) (fun c4 => ?_)
        · replace c4 := (nI_ltI (by omega) (by omega)).mp c4
          exfalso; omega
        · replace c4 := mt (nI_ltI (by omega) (by omega)).mpr c4
          refine lv_iconst (v := nI 1) hx hb d_M_transfer_22 (by decide) ?_
          refine lv_goto (tgt := 27) hx hb d_M_transfer_23 (by decide) ?_
          refine mu_calli (va_runV (As := [.int (nI 1)]) (rest := []) ⟨hx, hb, hml, hown, hts⟩ (m_goes_y l dC dI ad cI cJ cd n tc ki ra po se bc bs op pr pe pm _ ) (cwV 1 hts (wAll_v kw_338 kw_340 ks_12 kw_2 kw_341) rfl rfl rfl (by decide +kernel) ⟨Nat.le_of_ble_eq_true rfl, Nat.le_of_ble_eq_true rfl⟩) (mu_preV hK hP hD (ci := 1) (q0 := 0) rfl rfl) rfl rfl hl.1 rfl (lv_room (Nat.le_of_ble_eq_true rfl)) d_M_transfer_27 ⟨Nat.le_of_ble_eq_true rfl, Nat.le_of_ble_eq_true rfl⟩) hD hS hA (fun r H locs hq hP hD hS => ?_)
          obtain rfl := hq
          have hP : va_P (dC, dI) vwCl (md_w ad cI cJ 0 n tc ki ra po se bc bs op pr pe pm) H := hP
          have hD : va_D A (md_w ad cI cJ 0 n tc ki ra po se bc bs op pr pe pm) := hD
          refine lv_if_ne (tgt := 35) hx hb d_M_transfer_30 (by decide) (fun c5 => ?_) (fun c5 => ?_)
          · refine lv_iload_n hx hb d_M_transfer_35 rfl (lv_at hl 2 rfl) ?_
            refine lv_if_ne (tgt := 49) hx hb d_M_transfer_36 (by decide) (fun c6 => ?_) (fun c6 => ?_)
            · refine lv_iload_n hx hb d_M_transfer_49 rfl (lv_at hl 2 rfl) ?_
              refine lv_iconst (v := nI 1) hx hb d_M_transfer_50 (by decide) ?_
              refine lv_icmp_ne (tgt := 64) hx hb d_M_transfer_51 (by decide) (fun c7 => ?_) (fun c7 => ?_)
              · replace c7 := mt (nI_eq (by omega) (by omega)).mpr c7
                refine lv_aload_n hx hb d_M_transfer_64 rfl (lv_at hl 0 rfl) ?_
                refine va_get (D := (dC, dI)) (ci := 1) (v := .ref (ad 10)) (C := "ClearingBooksModel") (T := T_M) (N := 13) hx hb hts wi_M hown hK hP 0 rfl rfl 12 (by decide) (hts _ kw_285) (fun _ h9 => h9) rfl d_M_transfer_65 ?_
                refine lv_iload_n hx hb d_M_transfer_68 rfl (lv_at hl 1 rfl) ?_
                refine xa_laload (f := pm) hx hb hK hP 10 1 rfl rfl (j := i) (by omega) (by decide) d_M_transfer_69 ?_
                exact W.lret (v := pm i) hx hb hr (fun t ht hW => ⟨⟨pm i, (), rfl, rfl, by rw [ht]; exact hP, va_K.moved hW.alike hK, hD⟩, hS.F ht⟩) hS.2.2 d_M_transfer_70
              · replace c7 := (nI_eq (by omega) (by omega)).mp c7
                exfalso; omega
            · exact absurd c6 (by decide)
          · exact absurd c5 (by decide)
set_option maxHeartbeats 4000000 in
set_option maxRecDepth 100000 in
theorem m_transfer_tk (l : Launch) (dC : Nat → ClassId) (dI : Nat → Nat → Nat) (ad : Nat → Nat) (cI cJ : ClassId) (cd n tc : Nat) (ki ra : Nat → Int32) (po se : Nat → Int64) (bc : Nat → Int32) (bs op : Nat → Int64) (pr pe : Nat → Int32) (pm : Nat → Int64) (sz : Nat) (x k : Int32) (hno : ¬ (¬ x < 0 ∧ x < nI tc)) : Met l y_M_transfer (.code y_M_transfer b_M_transfer 3 (some .long) :: wAll) ({ frames := 1, cells := 0, slots := 0, locals := 21 } : Room) (mu_P [.ref (ad 0), .int x, .int k] (dC, dI) vwCl [(cI, .int), (cJ, .long)] (md_w ad cI cJ cd n tc ki ra po se bc bs op pr pe pm) sz) (va_Ql (fun (z : Int64) (_ : Unit) => z = 0) (mu_B (dC, dI) vwCl [(cI, .int), (cJ, .long)] (va_A (md_w ad cI cJ cd n tc ki ra po se bc bs op pr pe pm) sz) (md_w ad cI cJ 1 n tc ki ra po se bc bs op pr pe pm)) (va_A (md_w ad cI cJ cd n tc ki ra po se bc bs op pr pe pm) sz)) 0 0 (va_A (md_w ad cI cJ cd n tc ki ra po se bc bs op pr pe pm) sz) := by
  refine Met.ofW (cc := b_M_transfer) (maxL := 3) (ret := (some .long)) (by decide) rfl ?_
  intro p e s m args below meth c s₁ B hml hv
  obtain ⟨rfl, hsz, hP, hK, hD0⟩ := hv
  have hx := B.exec
  have hb := B.bytes
  have hr := B.returns
  have hts0 := atoms_spec (ws := (.code y_M_transfer b_M_transfer 3 (some .long) :: wAll)) B.pre
  have hts := hts_all hts0
  have hown : s.vm.findClass "ClearingBooksModel" = some m.cls := findClass_of_methodNamed B.named
  have hlocks := B.notSynchronized
  subst hsz
  have hD := hD0.self (sz := s.heap.size)
  generalize hAe : va_A (md_w ad cI cJ cd n tc ki ra po se bc bs op pr pe pm) s.heap.size = A at hD ⊢
  have hA : ∀ q : Nat, s.heap.size ≤ q → A q := fun q h => by rw [← hAe]; exact Or.inr h
  have hS : va_S A s.heap s.heap [] := va_S.rf
  have hl := lv_entry ([.ref (ad 0), .int x, .int k]) (n := 3) (Nat.le_of_ble_eq_true rfl)
  rw [lg_entry_eq]
  generalize (lg_sl ([.ref (ad 0), .int x, .int k]) ++ List.replicate (3 - (lg_sl ([.ref (ad 0), .int x, .int k])).length) Slot.unset).toArray = ls at hl ⊢
  have hl : lv_has ls 3 [(0, .ref (ad 0)), (1, .int x), (2, .int k)] := hl
  refine lv_aload_n hx hb d_M_transfer_0 rfl (lv_at hl 0 rfl) ?_
  refine lv_iload_n hx hb d_M_transfer_1 rfl (lv_at hl 1 rfl) ?_
  refine lv_if_lt (tgt := 26) hx hb d_M_transfer_2 (by decide) (fun c1 => ?_) (fun c1 => ?_)
  · refine lv_iconst (v := nI 0) hx hb d_M_transfer_26 (by decide) ?_
    refine mu_calli (va_runV (As := [.int (nI 0)]) (rest := []) ⟨hx, hb, hml, hown, hts⟩ (m_goes_n l dC dI ad cI cJ cd n tc ki ra po se bc bs op pr pe pm _ ) (cwV 1 hts (wAll_v kw_338 kw_340 ks_12 kw_2 kw_341) rfl rfl rfl (by decide +kernel) ⟨Nat.le_of_ble_eq_true rfl, Nat.le_of_ble_eq_true rfl⟩) (mu_preV hK hP hD (ci := 1) (q0 := 0) rfl rfl) rfl rfl hl.1 rfl (lv_room (Nat.le_of_ble_eq_true rfl)) d_M_transfer_27 ⟨Nat.le_of_ble_eq_true rfl, Nat.le_of_ble_eq_true rfl⟩) hD hS hA (fun r H locs hq hP hD hS => ?_)
    obtain rfl := hq
    have hP : va_P (dC, dI) vwCl (md_w ad cI cJ 1 n tc ki ra po se bc bs op pr pe pm) H := hP
    have hD : va_D A (md_w ad cI cJ 1 n tc ki ra po se bc bs op pr pe pm) := hD
    refine lv_if_ne (tgt := 35) hx hb d_M_transfer_30 (by decide) (fun c2 => ?_) (fun c2 => ?_)
    · exact absurd rfl c2
    · refine lv_lconst (v := 0) hx hb d_M_transfer_33 (by decide) ?_
      exact W.lret (v := 0) hx hb hr (fun t ht hW => ⟨⟨0, (), rfl, rfl, by rw [ht]; exact hP, va_K.moved hW.alike hK, hD⟩, hS.F ht⟩) hS.2.2 d_M_transfer_34
  · refine lv_iload_n hx hb d_M_transfer_5 rfl (lv_at hl 1 rfl) ?_
    refine lv_aload_n hx hb d_M_transfer_6 rfl (lv_at hl 0 rfl) ?_
    refine va_get (D := (dC, dI)) (ci := 1) (v := .int (nI tc)) (C := "ClearingBooksModel") (T := T_M) (N := 13) hx hb hts wi_M hown hK hP 0 rfl rfl 9 (by decide) (hts _ kw_282) (fun _ h9 => h9) rfl d_M_transfer_7 ?_
    refine lv_icmp_ge (tgt := 26) hx hb d_M_transfer_10 (by decide) (fun c3 => ?_) (fun c3 => ?_)
    · refine lv_iconst (v := nI 0) hx hb d_M_transfer_26 (by decide) ?_
      refine mu_calli (va_runV (As := [.int (nI 0)]) (rest := []) ⟨hx, hb, hml, hown, hts⟩ (m_goes_n l dC dI ad cI cJ cd n tc ki ra po se bc bs op pr pe pm _ ) (cwV 1 hts (wAll_v kw_338 kw_340 ks_12 kw_2 kw_341) rfl rfl rfl (by decide +kernel) ⟨Nat.le_of_ble_eq_true rfl, Nat.le_of_ble_eq_true rfl⟩) (mu_preV hK hP hD (ci := 1) (q0 := 0) rfl rfl) rfl rfl hl.1 rfl (lv_room (Nat.le_of_ble_eq_true rfl)) d_M_transfer_27 ⟨Nat.le_of_ble_eq_true rfl, Nat.le_of_ble_eq_true rfl⟩) hD hS hA (fun r H locs hq hP hD hS => ?_)
      obtain rfl := hq
      have hP : va_P (dC, dI) vwCl (md_w ad cI cJ 1 n tc ki ra po se bc bs op pr pe pm) H := hP
      have hD : va_D A (md_w ad cI cJ 1 n tc ki ra po se bc bs op pr pe pm) := hD
      refine lv_if_ne (tgt := 35) hx hb d_M_transfer_30 (by decide) (fun c4 => ?_) (fun c4 => ?_)
      · exact absurd rfl c4
      · refine lv_lconst (v := 0) hx hb d_M_transfer_33 (by decide) ?_
        exact W.lret (v := 0) hx hb hr (fun t ht hW => ⟨⟨0, (), rfl, rfl, by rw [ht]; exact hP, va_K.moved hW.alike hK, hD⟩, hS.F ht⟩) hS.2.2 d_M_transfer_34
    · exact absurd ⟨c1, Int32.not_le.mp c3⟩ hno
set_option maxHeartbeats 4000000 in
set_option maxRecDepth 100000 in
theorem m_transfer_tw (l : Launch) (dC : Nat → ClassId) (dI : Nat → Nat → Nat) (ad : Nat → Nat) (cI cJ : ClassId) (cd n tc : Nat) (ki ra : Nat → Int32) (po se : Nat → Int64) (bc : Nat → Int32) (bs op : Nat → Int64) (pr pe : Nat → Int32) (pm : Nat → Int64) (sz : Nat) (i : Nat) (k : Int32) (hi : i < tc) (htc : tc ≤ 14) (hw : k.toInt < 0 ∨ 2 < k.toInt) : Met l y_M_transfer (.code y_M_transfer b_M_transfer 3 (some .long) :: wAll) ({ frames := 1, cells := 0, slots := 0, locals := 21 } : Room) (mu_P [.ref (ad 0), .int (nI i), .int k] (dC, dI) vwCl [(cI, .int), (cJ, .long)] (md_w ad cI cJ cd n tc ki ra po se bc bs op pr pe pm) sz) (va_Ql (fun (z : Int64) (_ : Unit) => z = 0) (mu_B (dC, dI) vwCl [(cI, .int), (cJ, .long)] (va_A (md_w ad cI cJ cd n tc ki ra po se bc bs op pr pe pm) sz) (md_w ad cI cJ 1 n tc ki ra po se bc bs op pr pe pm)) (va_A (md_w ad cI cJ cd n tc ki ra po se bc bs op pr pe pm) sz)) 0 0 (va_A (md_w ad cI cJ cd n tc ki ra po se bc bs op pr pe pm) sz) := by
  refine Met.ofW (cc := b_M_transfer) (maxL := 3) (ret := (some .long)) (by decide) rfl ?_
  intro p e s m args below meth c s₁ B hml hv
  obtain ⟨rfl, hsz, hP, hK, hD0⟩ := hv
  have hx := B.exec
  have hb := B.bytes
  have hr := B.returns
  have hts0 := atoms_spec (ws := (.code y_M_transfer b_M_transfer 3 (some .long) :: wAll)) B.pre
  have hts := hts_all hts0
  have hown : s.vm.findClass "ClearingBooksModel" = some m.cls := findClass_of_methodNamed B.named
  have hlocks := B.notSynchronized
  subst hsz
  have hD := hD0.self (sz := s.heap.size)
  generalize hAe : va_A (md_w ad cI cJ cd n tc ki ra po se bc bs op pr pe pm) s.heap.size = A at hD ⊢
  have hA : ∀ q : Nat, s.heap.size ≤ q → A q := fun q h => by rw [← hAe]; exact Or.inr h
  have hS : va_S A s.heap s.heap [] := va_S.rf
  have hl := lv_entry ([.ref (ad 0), .int (nI i), .int k]) (n := 3) (Nat.le_of_ble_eq_true rfl)
  rw [lg_entry_eq]
  generalize (lg_sl ([.ref (ad 0), .int (nI i), .int k]) ++ List.replicate (3 - (lg_sl ([.ref (ad 0), .int (nI i), .int k])).length) Slot.unset).toArray = ls at hl ⊢
  have hl : lv_has ls 3 [(0, .ref (ad 0)), (1, .int (nI i)), (2, .int k)] := hl
  refine lv_aload_n hx hb d_M_transfer_0 rfl (lv_at hl 0 rfl) ?_
  refine lv_iload_n hx hb d_M_transfer_1 rfl (lv_at hl 1 rfl) ?_
  refine lv_if_lt (tgt := 26) hx hb d_M_transfer_2 (by decide) (fun c1 => ?_) (fun c1 => ?_)
  · exact absurd c1 (nI_pos (by omega))
  · refine lv_iload_n hx hb d_M_transfer_5 rfl (lv_at hl 1 rfl) ?_
    refine lv_aload_n hx hb d_M_transfer_6 rfl (lv_at hl 0 rfl) ?_
    refine va_get (D := (dC, dI)) (ci := 1) (v := .int (nI tc)) (C := "ClearingBooksModel") (T := T_M) (N := 13) hx hb hts wi_M hown hK hP 0 rfl rfl 9 (by decide) (hts _ kw_282) (fun _ h9 => h9) rfl d_M_transfer_7 ?_
    refine lv_icmp_ge (tgt := 26) hx hb d_M_transfer_10 (by decide) (fun c2 => ?_) (fun c2 => ?_)
    · replace c2 := (nI_leI (by omega) (by omega)).mp c2
      exfalso; omega
    · replace c2 := mt (nI_leI (by omega) (by omega)).mpr c2
      refine lv_iload_n hx hb d_M_transfer_13 rfl (lv_at hl 2 rfl) ?_
      refine lv_if_lt (tgt := 26) hx hb d_M_transfer_14 (by decide) (fun c3 => ?_) (fun c3 => ?_)
      · refine lv_iconst (v := nI 0) hx hb d_M_transfer_26 (by decide) ?_
        refine mu_calli (va_runV (As := [.int (nI 0)]) (rest := []) ⟨hx, hb, hml, hown, hts⟩ (m_goes_n l dC dI ad cI cJ cd n tc ki ra po se bc bs op pr pe pm _ ) (cwV 1 hts (wAll_v kw_338 kw_340 ks_12 kw_2 kw_341) rfl rfl rfl (by decide +kernel) ⟨Nat.le_of_ble_eq_true rfl, Nat.le_of_ble_eq_true rfl⟩) (mu_preV hK hP hD (ci := 1) (q0 := 0) rfl rfl) rfl rfl hl.1 rfl (lv_room (Nat.le_of_ble_eq_true rfl)) d_M_transfer_27 ⟨Nat.le_of_ble_eq_true rfl, Nat.le_of_ble_eq_true rfl⟩) hD hS hA (fun r H locs hq hP hD hS => ?_)
        obtain rfl := hq
        have hP : va_P (dC, dI) vwCl (md_w ad cI cJ 1 n tc ki ra po se bc bs op pr pe pm) H := hP
        have hD : va_D A (md_w ad cI cJ 1 n tc ki ra po se bc bs op pr pe pm) := hD
        refine lv_if_ne (tgt := 35) hx hb d_M_transfer_30 (by decide) (fun c4 => ?_) (fun c4 => ?_)
        · exact absurd rfl c4
        · refine lv_lconst (v := 0) hx hb d_M_transfer_33 (by decide) ?_
          exact W.lret (v := 0) hx hb hr (fun t ht hW => ⟨⟨0, (), rfl, rfl, by rw [ht]; exact hP, va_K.moved hW.alike hK, hD⟩, hS.F ht⟩) hS.2.2 d_M_transfer_34
      · refine lv_iload_n hx hb d_M_transfer_17 rfl (lv_at hl 2 rfl) ?_
        refine lv_iconst (v := nI 2) hx hb d_M_transfer_18 (by decide) ?_
        refine lv_icmp_gt (tgt := 26) hx hb d_M_transfer_19 (by decide) (fun c5 => ?_) (fun c5 => ?_)
        · refine lv_iconst (v := nI 0) hx hb d_M_transfer_26 (by decide) ?_
          refine mu_calli (va_runV (As := [.int (nI 0)]) (rest := []) ⟨hx, hb, hml, hown, hts⟩ (m_goes_n l dC dI ad cI cJ cd n tc ki ra po se bc bs op pr pe pm _ ) (cwV 1 hts (wAll_v kw_338 kw_340 ks_12 kw_2 kw_341) rfl rfl rfl (by decide +kernel) ⟨Nat.le_of_ble_eq_true rfl, Nat.le_of_ble_eq_true rfl⟩) (mu_preV hK hP hD (ci := 1) (q0 := 0) rfl rfl) rfl rfl hl.1 rfl (lv_room (Nat.le_of_ble_eq_true rfl)) d_M_transfer_27 ⟨Nat.le_of_ble_eq_true rfl, Nat.le_of_ble_eq_true rfl⟩) hD hS hA (fun r H locs hq hP hD hS => ?_)
          obtain rfl := hq
          have hP : va_P (dC, dI) vwCl (md_w ad cI cJ 1 n tc ki ra po se bc bs op pr pe pm) H := hP
          have hD : va_D A (md_w ad cI cJ 1 n tc ki ra po se bc bs op pr pe pm) := hD
          refine lv_if_ne (tgt := 35) hx hb d_M_transfer_30 (by decide) (fun c6 => ?_) (fun c6 => ?_)
          · exact absurd rfl c6
          · refine lv_lconst (v := 0) hx hb d_M_transfer_33 (by decide) ?_
            exact W.lret (v := 0) hx hb hr (fun t ht hW => ⟨⟨0, (), rfl, rfl, by rw [ht]; exact hP, va_K.moved hW.alike hK, hD⟩, hS.F ht⟩) hS.2.2 d_M_transfer_34
        · exact absurd hw (tw_no (m := 2) (by decide) c3 c5)
set_option maxHeartbeats 4000000 in
set_option maxRecDepth 100000 in
theorem m_party_y0 (l : Launch) (dC : Nat → ClassId) (dI : Nat → Nat → Nat) (ad : Nat → Nat) (cI cJ : ClassId) (cd n tc : Nat) (ki ra : Nat → Int32) (po se : Nat → Int64) (bc : Nat → Int32) (bs op : Nat → Int64) (pr pe : Nat → Int32) (pm : Nat → Int64) (sz : Nat) (i : Nat) (hi : i < n) (hn : n ≤ 15) : Met l y_M_party (.code y_M_party b_M_party 5 (some .long) :: wAll) ({ frames := 1, cells := 0, slots := 0, locals := 21 } : Room) (mu_P [.ref (ad 0), .int (nI i), .int (nI 0)] (dC, dI) vwCl [(cI, .int), (cJ, .long)] (md_w ad cI cJ cd n tc ki ra po se bc bs op pr pe pm) sz) (va_Ql (fun (z : Int64) (_ : Unit) => z = po i) (mu_B (dC, dI) vwCl [(cI, .int), (cJ, .long)] (va_A (md_w ad cI cJ cd n tc ki ra po se bc bs op pr pe pm) sz) (md_w ad cI cJ 0 n tc ki ra po se bc bs op pr pe pm)) (va_A (md_w ad cI cJ cd n tc ki ra po se bc bs op pr pe pm) sz)) 0 0 (va_A (md_w ad cI cJ cd n tc ki ra po se bc bs op pr pe pm) sz) := by
  refine Met.ofW (cc := b_M_party) (maxL := 5) (ret := (some .long)) (by decide) rfl ?_
  intro p e s m args below meth c s₁ B hml hv
  obtain ⟨rfl, hsz, hP, hK, hD0⟩ := hv
  have hx := B.exec
  have hb := B.bytes
  have hr := B.returns
  have hts0 := atoms_spec (ws := (.code y_M_party b_M_party 5 (some .long) :: wAll)) B.pre
  have hts := hts_all hts0
  have hown : s.vm.findClass "ClearingBooksModel" = some m.cls := findClass_of_methodNamed B.named
  have hlocks := B.notSynchronized
  subst hsz
  have hD := hD0.self (sz := s.heap.size)
  generalize hAe : va_A (md_w ad cI cJ cd n tc ki ra po se bc bs op pr pe pm) s.heap.size = A at hD ⊢
  have hA : ∀ q : Nat, s.heap.size ≤ q → A q := fun q h => by rw [← hAe]; exact Or.inr h
  have hS : va_S A s.heap s.heap [] := va_S.rf
  have hl := lv_entry ([.ref (ad 0), .int (nI i), .int (nI 0)]) (n := 5) (Nat.le_of_ble_eq_true rfl)
  rw [lg_entry_eq]
  generalize (lg_sl ([.ref (ad 0), .int (nI i), .int (nI 0)]) ++ List.replicate (5 - (lg_sl ([.ref (ad 0), .int (nI i), .int (nI 0)])).length) Slot.unset).toArray = ls at hl ⊢
  have hl : lv_has ls 5 [(0, .ref (ad 0)), (1, .int (nI i)), (2, .int (nI 0))] := hl
  refine lv_aload_n hx hb d_M_party_0 rfl (lv_at hl 0 rfl) ?_
  refine lv_iload_n hx hb d_M_party_1 rfl (lv_at hl 1 rfl) ?_
  refine lv_if_lt (tgt := 26) hx hb d_M_party_2 (by decide) (fun c1 => ?_) (fun c1 => ?_)
  · exact absurd c1 (nI_pos (by omega))
  · refine lv_iload_n hx hb d_M_party_5 rfl (lv_at hl 1 rfl) ?_
    refine lv_aload_n hx hb d_M_party_6 rfl (lv_at hl 0 rfl) ?_
    refine va_get (D := (dC, dI)) (ci := 1) (v := .int (nI n)) (C := "ClearingBooksModel") (T := T_M) (N := 13) hx hb hts wi_M hown hK hP 0 rfl rfl 1 (by decide) (hts _ kw_274) (fun _ h9 => h9) rfl d_M_party_7 ?_
    refine lv_icmp_ge (tgt := 26) hx hb d_M_party_10 (by decide) (fun c2 => ?_) (fun c2 => ?_)
    · replace c2 := (nI_leI (by omega) (by omega)).mp c2
      exfalso; omega
    · replace c2 := mt (nI_leI (by omega) (by omega)).mpr c2
      refine lv_iload_n hx hb d_M_party_13 rfl (lv_at hl 2 rfl) ?_
      refine lv_if_lt (tgt := 26) hx hb d_M_party_14 (by decide) (fun c3 => ?_) (fun c3 => ?_)
      · exact absurd c3 (by decide)
      · refine lv_iload_n hx hb d_M_party_17 rfl (lv_at hl 2 rfl) ?_
        refine lv_iconst (v := nI 4) hx hb d_M_party_18 (by decide) ?_
        refine lv_icmp_gt (tgt := 26) hx hb d_M_party_19 (by decide) (fun c4 => ?_) (fun c4 => ?_)
        · replace c4 := (nI_ltI (by omega) (by omega)).mp c4
          exfalso; omega
        · replace c4 := mt (nI_ltI (by omega) (by omega)).mpr c4
          refine lv_iconst (v := nI 1) hx hb d_M_party_22 (by decide) ?_
          refine lv_goto (tgt := 27) hx hb d_M_party_23 (by decide) ?_
          refine mu_calli (va_runV (As := [.int (nI 1)]) (rest := []) ⟨hx, hb, hml, hown, hts⟩ (m_goes_y l dC dI ad cI cJ cd n tc ki ra po se bc bs op pr pe pm _ ) (cwV 1 hts (wAll_v kw_338 kw_340 ks_12 kw_2 kw_341) rfl rfl rfl (by decide +kernel) ⟨Nat.le_of_ble_eq_true rfl, Nat.le_of_ble_eq_true rfl⟩) (mu_preV hK hP hD (ci := 1) (q0 := 0) rfl rfl) rfl rfl hl.1 rfl (lv_room (Nat.le_of_ble_eq_true rfl)) d_M_party_27 ⟨Nat.le_of_ble_eq_true rfl, Nat.le_of_ble_eq_true rfl⟩) hD hS hA (fun r H locs hq hP hD hS => ?_)
          obtain rfl := hq
          have hP : va_P (dC, dI) vwCl (md_w ad cI cJ 0 n tc ki ra po se bc bs op pr pe pm) H := hP
          have hD : va_D A (md_w ad cI cJ 0 n tc ki ra po se bc bs op pr pe pm) := hD
          refine lv_if_ne (tgt := 35) hx hb d_M_party_30 (by decide) (fun c5 => ?_) (fun c5 => ?_)
          · refine lv_iload_n hx hb d_M_party_35 rfl (lv_at hl 2 rfl) ?_
            refine lv_iconst (v := nI 4) hx hb d_M_party_36 (by decide) ?_
            refine lv_icmp_ge (tgt := 90) hx hb d_M_party_37 (by decide) (fun c6 => ?_) (fun c6 => ?_)
            · replace c6 := (nI_leI (by omega) (by omega)).mp c6
              exfalso; omega
            · replace c6 := mt (nI_leI (by omega) (by omega)).mpr c6
              refine lv_iload_n hx hb d_M_party_40 rfl (lv_at hl 2 rfl) ?_
              refine lv_if_ne (tgt := 53) hx hb d_M_party_41 (by decide) (fun c7 => ?_) (fun c7 => ?_)
              · exact absurd rfl c7
              · refine lv_aload_n hx hb d_M_party_44 rfl (lv_at hl 0 rfl) ?_
                refine va_get (D := (dC, dI)) (ci := 1) (v := .ref (ad 3)) (C := "ClearingBooksModel") (T := T_M) (N := 13) hx hb hts wi_M hown hK hP 0 rfl rfl 4 (by decide) (hts _ kw_277) (fun _ h9 => h9) rfl d_M_party_45 ?_
                refine lv_iload_n hx hb d_M_party_48 rfl (lv_at hl 1 rfl) ?_
                refine xa_laload (f := po) hx hb hK hP 3 1 rfl rfl (j := i) (by omega) (by decide) d_M_party_49 ?_
                refine lv_goto (tgt := 89) hx hb d_M_party_50 (by decide) ?_
                exact W.lret (v := po i) hx hb hr (fun t ht hW => ⟨⟨po i, (), rfl, rfl, by rw [ht]; exact hP, va_K.moved hW.alike hK, hD⟩, hS.F ht⟩) hS.2.2 d_M_party_89
          · exact absurd c5 (by decide)
set_option maxHeartbeats 4000000 in
set_option maxRecDepth 100000 in
theorem m_party_y1 (l : Launch) (dC : Nat → ClassId) (dI : Nat → Nat → Nat) (ad : Nat → Nat) (cI cJ : ClassId) (cd n tc : Nat) (ki ra : Nat → Int32) (po se : Nat → Int64) (bc : Nat → Int32) (bs op : Nat → Int64) (pr pe : Nat → Int32) (pm : Nat → Int64) (sz : Nat) (i : Nat) (hi : i < n) (hn : n ≤ 15) : Met l y_M_party (.code y_M_party b_M_party 5 (some .long) :: wAll) ({ frames := 1, cells := 0, slots := 0, locals := 21 } : Room) (mu_P [.ref (ad 0), .int (nI i), .int (nI 1)] (dC, dI) vwCl [(cI, .int), (cJ, .long)] (md_w ad cI cJ cd n tc ki ra po se bc bs op pr pe pm) sz) (va_Ql (fun (z : Int64) (_ : Unit) => z = se i) (mu_B (dC, dI) vwCl [(cI, .int), (cJ, .long)] (va_A (md_w ad cI cJ cd n tc ki ra po se bc bs op pr pe pm) sz) (md_w ad cI cJ 0 n tc ki ra po se bc bs op pr pe pm)) (va_A (md_w ad cI cJ cd n tc ki ra po se bc bs op pr pe pm) sz)) 0 0 (va_A (md_w ad cI cJ cd n tc ki ra po se bc bs op pr pe pm) sz) := by
  refine Met.ofW (cc := b_M_party) (maxL := 5) (ret := (some .long)) (by decide) rfl ?_
  intro p e s m args below meth c s₁ B hml hv
  obtain ⟨rfl, hsz, hP, hK, hD0⟩ := hv
  have hx := B.exec
  have hb := B.bytes
  have hr := B.returns
  have hts0 := atoms_spec (ws := (.code y_M_party b_M_party 5 (some .long) :: wAll)) B.pre
  have hts := hts_all hts0
  have hown : s.vm.findClass "ClearingBooksModel" = some m.cls := findClass_of_methodNamed B.named
  have hlocks := B.notSynchronized
  subst hsz
  have hD := hD0.self (sz := s.heap.size)
  generalize hAe : va_A (md_w ad cI cJ cd n tc ki ra po se bc bs op pr pe pm) s.heap.size = A at hD ⊢
  have hA : ∀ q : Nat, s.heap.size ≤ q → A q := fun q h => by rw [← hAe]; exact Or.inr h
  have hS : va_S A s.heap s.heap [] := va_S.rf
  have hl := lv_entry ([.ref (ad 0), .int (nI i), .int (nI 1)]) (n := 5) (Nat.le_of_ble_eq_true rfl)
  rw [lg_entry_eq]
  generalize (lg_sl ([.ref (ad 0), .int (nI i), .int (nI 1)]) ++ List.replicate (5 - (lg_sl ([.ref (ad 0), .int (nI i), .int (nI 1)])).length) Slot.unset).toArray = ls at hl ⊢
  have hl : lv_has ls 5 [(0, .ref (ad 0)), (1, .int (nI i)), (2, .int (nI 1))] := hl
  refine lv_aload_n hx hb d_M_party_0 rfl (lv_at hl 0 rfl) ?_
  refine lv_iload_n hx hb d_M_party_1 rfl (lv_at hl 1 rfl) ?_
  refine lv_if_lt (tgt := 26) hx hb d_M_party_2 (by decide) (fun c1 => ?_) (fun c1 => ?_)
  · exact absurd c1 (nI_pos (by omega))
  · refine lv_iload_n hx hb d_M_party_5 rfl (lv_at hl 1 rfl) ?_
    refine lv_aload_n hx hb d_M_party_6 rfl (lv_at hl 0 rfl) ?_
    refine va_get (D := (dC, dI)) (ci := 1) (v := .int (nI n)) (C := "ClearingBooksModel") (T := T_M) (N := 13) hx hb hts wi_M hown hK hP 0 rfl rfl 1 (by decide) (hts _ kw_274) (fun _ h9 => h9) rfl d_M_party_7 ?_
    refine lv_icmp_ge (tgt := 26) hx hb d_M_party_10 (by decide) (fun c2 => ?_) (fun c2 => ?_)
    · replace c2 := (nI_leI (by omega) (by omega)).mp c2
      exfalso; omega
    · replace c2 := mt (nI_leI (by omega) (by omega)).mpr c2
      refine lv_iload_n hx hb d_M_party_13 rfl (lv_at hl 2 rfl) ?_
      refine lv_if_lt (tgt := 26) hx hb d_M_party_14 (by decide) (fun c3 => ?_) (fun c3 => ?_)
      · exact absurd c3 (by decide)
      · refine lv_iload_n hx hb d_M_party_17 rfl (lv_at hl 2 rfl) ?_
        refine lv_iconst (v := nI 4) hx hb d_M_party_18 (by decide) ?_
        refine lv_icmp_gt (tgt := 26) hx hb d_M_party_19 (by decide) (fun c4 => ?_) (fun c4 => ?_)
        · replace c4 := (nI_ltI (by omega) (by omega)).mp c4
          exfalso; omega
        · replace c4 := mt (nI_ltI (by omega) (by omega)).mpr c4
          refine lv_iconst (v := nI 1) hx hb d_M_party_22 (by decide) ?_
          refine lv_goto (tgt := 27) hx hb d_M_party_23 (by decide) ?_
          refine mu_calli (va_runV (As := [.int (nI 1)]) (rest := []) ⟨hx, hb, hml, hown, hts⟩ (m_goes_y l dC dI ad cI cJ cd n tc ki ra po se bc bs op pr pe pm _ ) (cwV 1 hts (wAll_v kw_338 kw_340 ks_12 kw_2 kw_341) rfl rfl rfl (by decide +kernel) ⟨Nat.le_of_ble_eq_true rfl, Nat.le_of_ble_eq_true rfl⟩) (mu_preV hK hP hD (ci := 1) (q0 := 0) rfl rfl) rfl rfl hl.1 rfl (lv_room (Nat.le_of_ble_eq_true rfl)) d_M_party_27 ⟨Nat.le_of_ble_eq_true rfl, Nat.le_of_ble_eq_true rfl⟩) hD hS hA (fun r H locs hq hP hD hS => ?_)
          obtain rfl := hq
          have hP : va_P (dC, dI) vwCl (md_w ad cI cJ 0 n tc ki ra po se bc bs op pr pe pm) H := hP
          have hD : va_D A (md_w ad cI cJ 0 n tc ki ra po se bc bs op pr pe pm) := hD
          refine lv_if_ne (tgt := 35) hx hb d_M_party_30 (by decide) (fun c5 => ?_) (fun c5 => ?_)
          · refine lv_iload_n hx hb d_M_party_35 rfl (lv_at hl 2 rfl) ?_
            refine lv_iconst (v := nI 4) hx hb d_M_party_36 (by decide) ?_
            refine lv_icmp_ge (tgt := 90) hx hb d_M_party_37 (by decide) (fun c6 => ?_) (fun c6 => ?_)
            · replace c6 := (nI_leI (by omega) (by omega)).mp c6
              exfalso; omega
            · replace c6 := mt (nI_leI (by omega) (by omega)).mpr c6
              refine lv_iload_n hx hb d_M_party_40 rfl (lv_at hl 2 rfl) ?_
              refine lv_if_ne (tgt := 53) hx hb d_M_party_41 (by decide) (fun c7 => ?_) (fun c7 => ?_)
              · refine lv_iload_n hx hb d_M_party_53 rfl (lv_at hl 2 rfl) ?_
                refine lv_iconst (v := nI 1) hx hb d_M_party_54 (by decide) ?_
                refine lv_icmp_ne (tgt := 67) hx hb d_M_party_55 (by decide) (fun c8 => ?_) (fun c8 => ?_)
                · replace c8 := mt (nI_eq (by omega) (by omega)).mpr c8
                  exact absurd rfl c8
                · replace c8 := (nI_eq (by omega) (by omega)).mp c8
                  refine lv_aload_n hx hb d_M_party_58 rfl (lv_at hl 0 rfl) ?_
                  refine va_get (D := (dC, dI)) (ci := 1) (v := .ref (ad 4)) (C := "ClearingBooksModel") (T := T_M) (N := 13) hx hb hts wi_M hown hK hP 0 rfl rfl 5 (by decide) (hts _ kw_278) (fun _ h9 => h9) rfl d_M_party_59 ?_
                  refine lv_iload_n hx hb d_M_party_62 rfl (lv_at hl 1 rfl) ?_
                  refine xa_laload (f := se) hx hb hK hP 4 1 rfl rfl (j := i) (by omega) (by decide) d_M_party_63 ?_
                  refine lv_goto (tgt := 89) hx hb d_M_party_64 (by decide) ?_
                  exact W.lret (v := se i) hx hb hr (fun t ht hW => ⟨⟨se i, (), rfl, rfl, by rw [ht]; exact hP, va_K.moved hW.alike hK, hD⟩, hS.F ht⟩) hS.2.2 d_M_party_89
              · exact absurd c7 (by decide)
          · exact absurd c5 (by decide)
set_option maxHeartbeats 4000000 in
set_option maxRecDepth 100000 in
theorem m_party_y2 (l : Launch) (dC : Nat → ClassId) (dI : Nat → Nat → Nat) (ad : Nat → Nat) (cI cJ : ClassId) (cd n tc : Nat) (ki ra : Nat → Int32) (po se : Nat → Int64) (bc : Nat → Int32) (bs op : Nat → Int64) (pr pe : Nat → Int32) (pm : Nat → Int64) (sz : Nat) (i : Nat) (hi : i < n) (hn : n ≤ 15) : Met l y_M_party (.code y_M_party b_M_party 5 (some .long) :: wAll) ({ frames := 1, cells := 0, slots := 0, locals := 21 } : Room) (mu_P [.ref (ad 0), .int (nI i), .int (nI 2)] (dC, dI) vwCl [(cI, .int), (cJ, .long)] (md_w ad cI cJ cd n tc ki ra po se bc bs op pr pe pm) sz) (va_Ql (fun (z : Int64) (_ : Unit) => z = (ki i).toInt64) (mu_B (dC, dI) vwCl [(cI, .int), (cJ, .long)] (va_A (md_w ad cI cJ cd n tc ki ra po se bc bs op pr pe pm) sz) (md_w ad cI cJ 0 n tc ki ra po se bc bs op pr pe pm)) (va_A (md_w ad cI cJ cd n tc ki ra po se bc bs op pr pe pm) sz)) 0 0 (va_A (md_w ad cI cJ cd n tc ki ra po se bc bs op pr pe pm) sz) := by
  refine Met.ofW (cc := b_M_party) (maxL := 5) (ret := (some .long)) (by decide) rfl ?_
  intro p e s m args below meth c s₁ B hml hv
  obtain ⟨rfl, hsz, hP, hK, hD0⟩ := hv
  have hx := B.exec
  have hb := B.bytes
  have hr := B.returns
  have hts0 := atoms_spec (ws := (.code y_M_party b_M_party 5 (some .long) :: wAll)) B.pre
  have hts := hts_all hts0
  have hown : s.vm.findClass "ClearingBooksModel" = some m.cls := findClass_of_methodNamed B.named
  have hlocks := B.notSynchronized
  subst hsz
  have hD := hD0.self (sz := s.heap.size)
  generalize hAe : va_A (md_w ad cI cJ cd n tc ki ra po se bc bs op pr pe pm) s.heap.size = A at hD ⊢
  have hA : ∀ q : Nat, s.heap.size ≤ q → A q := fun q h => by rw [← hAe]; exact Or.inr h
  have hS : va_S A s.heap s.heap [] := va_S.rf
  have hl := lv_entry ([.ref (ad 0), .int (nI i), .int (nI 2)]) (n := 5) (Nat.le_of_ble_eq_true rfl)
  rw [lg_entry_eq]
  generalize (lg_sl ([.ref (ad 0), .int (nI i), .int (nI 2)]) ++ List.replicate (5 - (lg_sl ([.ref (ad 0), .int (nI i), .int (nI 2)])).length) Slot.unset).toArray = ls at hl ⊢
  have hl : lv_has ls 5 [(0, .ref (ad 0)), (1, .int (nI i)), (2, .int (nI 2))] := hl
  refine lv_aload_n hx hb d_M_party_0 rfl (lv_at hl 0 rfl) ?_
  refine lv_iload_n hx hb d_M_party_1 rfl (lv_at hl 1 rfl) ?_
  refine lv_if_lt (tgt := 26) hx hb d_M_party_2 (by decide) (fun c1 => ?_) (fun c1 => ?_)
  · exact absurd c1 (nI_pos (by omega))
  · refine lv_iload_n hx hb d_M_party_5 rfl (lv_at hl 1 rfl) ?_
    refine lv_aload_n hx hb d_M_party_6 rfl (lv_at hl 0 rfl) ?_
    refine va_get (D := (dC, dI)) (ci := 1) (v := .int (nI n)) (C := "ClearingBooksModel") (T := T_M) (N := 13) hx hb hts wi_M hown hK hP 0 rfl rfl 1 (by decide) (hts _ kw_274) (fun _ h9 => h9) rfl d_M_party_7 ?_
    refine lv_icmp_ge (tgt := 26) hx hb d_M_party_10 (by decide) (fun c2 => ?_) (fun c2 => ?_)
    · replace c2 := (nI_leI (by omega) (by omega)).mp c2
      exfalso; omega
    · replace c2 := mt (nI_leI (by omega) (by omega)).mpr c2
      refine lv_iload_n hx hb d_M_party_13 rfl (lv_at hl 2 rfl) ?_
      refine lv_if_lt (tgt := 26) hx hb d_M_party_14 (by decide) (fun c3 => ?_) (fun c3 => ?_)
      · exact absurd c3 (by decide)
      · refine lv_iload_n hx hb d_M_party_17 rfl (lv_at hl 2 rfl) ?_
        refine lv_iconst (v := nI 4) hx hb d_M_party_18 (by decide) ?_
        refine lv_icmp_gt (tgt := 26) hx hb d_M_party_19 (by decide) (fun c4 => ?_) (fun c4 => ?_)
        · replace c4 := (nI_ltI (by omega) (by omega)).mp c4
          exfalso; omega
        · replace c4 := mt (nI_ltI (by omega) (by omega)).mpr c4
          refine lv_iconst (v := nI 1) hx hb d_M_party_22 (by decide) ?_
          refine lv_goto (tgt := 27) hx hb d_M_party_23 (by decide) ?_
          refine mu_calli (va_runV (As := [.int (nI 1)]) (rest := []) ⟨hx, hb, hml, hown, hts⟩ (m_goes_y l dC dI ad cI cJ cd n tc ki ra po se bc bs op pr pe pm _ ) (cwV 1 hts (wAll_v kw_338 kw_340 ks_12 kw_2 kw_341) rfl rfl rfl (by decide +kernel) ⟨Nat.le_of_ble_eq_true rfl, Nat.le_of_ble_eq_true rfl⟩) (mu_preV hK hP hD (ci := 1) (q0 := 0) rfl rfl) rfl rfl hl.1 rfl (lv_room (Nat.le_of_ble_eq_true rfl)) d_M_party_27 ⟨Nat.le_of_ble_eq_true rfl, Nat.le_of_ble_eq_true rfl⟩) hD hS hA (fun r H locs hq hP hD hS => ?_)
          obtain rfl := hq
          have hP : va_P (dC, dI) vwCl (md_w ad cI cJ 0 n tc ki ra po se bc bs op pr pe pm) H := hP
          have hD : va_D A (md_w ad cI cJ 0 n tc ki ra po se bc bs op pr pe pm) := hD
          refine lv_if_ne (tgt := 35) hx hb d_M_party_30 (by decide) (fun c5 => ?_) (fun c5 => ?_)
          · refine lv_iload_n hx hb d_M_party_35 rfl (lv_at hl 2 rfl) ?_
            refine lv_iconst (v := nI 4) hx hb d_M_party_36 (by decide) ?_
            refine lv_icmp_ge (tgt := 90) hx hb d_M_party_37 (by decide) (fun c6 => ?_) (fun c6 => ?_)
            · replace c6 := (nI_leI (by omega) (by omega)).mp c6
              exfalso; omega
            · replace c6 := mt (nI_leI (by omega) (by omega)).mpr c6
              refine lv_iload_n hx hb d_M_party_40 rfl (lv_at hl 2 rfl) ?_
              refine lv_if_ne (tgt := 53) hx hb d_M_party_41 (by decide) (fun c7 => ?_) (fun c7 => ?_)
              · refine lv_iload_n hx hb d_M_party_53 rfl (lv_at hl 2 rfl) ?_
                refine lv_iconst (v := nI 1) hx hb d_M_party_54 (by decide) ?_
                refine lv_icmp_ne (tgt := 67) hx hb d_M_party_55 (by decide) (fun c8 => ?_) (fun c8 => ?_)
                · replace c8 := mt (nI_eq (by omega) (by omega)).mpr c8
                  refine lv_iload_n hx hb d_M_party_67 rfl (lv_at hl 2 rfl) ?_
                  refine lv_iconst (v := nI 2) hx hb d_M_party_68 (by decide) ?_
                  refine lv_icmp_ne (tgt := 82) hx hb d_M_party_69 (by decide) (fun c9 => ?_) (fun c9 => ?_)
                  · replace c9 := mt (nI_eq (by omega) (by omega)).mpr c9
                    exact absurd rfl c9
                  · replace c9 := (nI_eq (by omega) (by omega)).mp c9
                    refine lv_aload_n hx hb d_M_party_72 rfl (lv_at hl 0 rfl) ?_
                    refine va_get (D := (dC, dI)) (ci := 1) (v := .ref (ad 1)) (C := "ClearingBooksModel") (T := T_M) (N := 13) hx hb hts wi_M hown hK hP 0 rfl rfl 2 (by decide) (hts _ kw_275) (fun _ h9 => h9) rfl d_M_party_73 ?_
                    refine lv_iload_n hx hb d_M_party_76 rfl (lv_at hl 1 rfl) ?_
                    refine xa_iaload (f := ki) hx hb hK hP 1 0 rfl rfl (j := i) (by omega) (by decide) d_M_party_77 ?_
                    refine lv_i2l (v := (ki i).toInt64) hx hb d_M_party_78 rfl ?_
                    refine lv_goto (tgt := 89) hx hb d_M_party_79 (by decide) ?_
                    exact W.lret (v := (ki i).toInt64) hx hb hr (fun t ht hW => ⟨⟨(ki i).toInt64, (), rfl, rfl, by rw [ht]; exact hP, va_K.moved hW.alike hK, hD⟩, hS.F ht⟩) hS.2.2 d_M_party_89
                · replace c8 := (nI_eq (by omega) (by omega)).mp c8
                  exfalso; omega
              · exact absurd c7 (by decide)
          · exact absurd c5 (by decide)
set_option maxHeartbeats 4000000 in
set_option maxRecDepth 100000 in
theorem m_party_y3 (l : Launch) (dC : Nat → ClassId) (dI : Nat → Nat → Nat) (ad : Nat → Nat) (cI cJ : ClassId) (cd n tc : Nat) (ki ra : Nat → Int32) (po se : Nat → Int64) (bc : Nat → Int32) (bs op : Nat → Int64) (pr pe : Nat → Int32) (pm : Nat → Int64) (sz : Nat) (i : Nat) (hi : i < n) (hn : n ≤ 15) : Met l y_M_party (.code y_M_party b_M_party 5 (some .long) :: wAll) ({ frames := 1, cells := 0, slots := 0, locals := 21 } : Room) (mu_P [.ref (ad 0), .int (nI i), .int (nI 3)] (dC, dI) vwCl [(cI, .int), (cJ, .long)] (md_w ad cI cJ cd n tc ki ra po se bc bs op pr pe pm) sz) (va_Ql (fun (z : Int64) (_ : Unit) => z = (ra i).toInt64) (mu_B (dC, dI) vwCl [(cI, .int), (cJ, .long)] (va_A (md_w ad cI cJ cd n tc ki ra po se bc bs op pr pe pm) sz) (md_w ad cI cJ 0 n tc ki ra po se bc bs op pr pe pm)) (va_A (md_w ad cI cJ cd n tc ki ra po se bc bs op pr pe pm) sz)) 0 0 (va_A (md_w ad cI cJ cd n tc ki ra po se bc bs op pr pe pm) sz) := by
  refine Met.ofW (cc := b_M_party) (maxL := 5) (ret := (some .long)) (by decide) rfl ?_
  intro p e s m args below meth c s₁ B hml hv
  obtain ⟨rfl, hsz, hP, hK, hD0⟩ := hv
  have hx := B.exec
  have hb := B.bytes
  have hr := B.returns
  have hts0 := atoms_spec (ws := (.code y_M_party b_M_party 5 (some .long) :: wAll)) B.pre
  have hts := hts_all hts0
  have hown : s.vm.findClass "ClearingBooksModel" = some m.cls := findClass_of_methodNamed B.named
  have hlocks := B.notSynchronized
  subst hsz
  have hD := hD0.self (sz := s.heap.size)
  generalize hAe : va_A (md_w ad cI cJ cd n tc ki ra po se bc bs op pr pe pm) s.heap.size = A at hD ⊢
  have hA : ∀ q : Nat, s.heap.size ≤ q → A q := fun q h => by rw [← hAe]; exact Or.inr h
  have hS : va_S A s.heap s.heap [] := va_S.rf
  have hl := lv_entry ([.ref (ad 0), .int (nI i), .int (nI 3)]) (n := 5) (Nat.le_of_ble_eq_true rfl)
  rw [lg_entry_eq]
  generalize (lg_sl ([.ref (ad 0), .int (nI i), .int (nI 3)]) ++ List.replicate (5 - (lg_sl ([.ref (ad 0), .int (nI i), .int (nI 3)])).length) Slot.unset).toArray = ls at hl ⊢
  have hl : lv_has ls 5 [(0, .ref (ad 0)), (1, .int (nI i)), (2, .int (nI 3))] := hl
  refine lv_aload_n hx hb d_M_party_0 rfl (lv_at hl 0 rfl) ?_
  refine lv_iload_n hx hb d_M_party_1 rfl (lv_at hl 1 rfl) ?_
  refine lv_if_lt (tgt := 26) hx hb d_M_party_2 (by decide) (fun c1 => ?_) (fun c1 => ?_)
  · exact absurd c1 (nI_pos (by omega))
  · refine lv_iload_n hx hb d_M_party_5 rfl (lv_at hl 1 rfl) ?_
    refine lv_aload_n hx hb d_M_party_6 rfl (lv_at hl 0 rfl) ?_
    refine va_get (D := (dC, dI)) (ci := 1) (v := .int (nI n)) (C := "ClearingBooksModel") (T := T_M) (N := 13) hx hb hts wi_M hown hK hP 0 rfl rfl 1 (by decide) (hts _ kw_274) (fun _ h9 => h9) rfl d_M_party_7 ?_
    refine lv_icmp_ge (tgt := 26) hx hb d_M_party_10 (by decide) (fun c2 => ?_) (fun c2 => ?_)
    · replace c2 := (nI_leI (by omega) (by omega)).mp c2
      exfalso; omega
    · replace c2 := mt (nI_leI (by omega) (by omega)).mpr c2
      refine lv_iload_n hx hb d_M_party_13 rfl (lv_at hl 2 rfl) ?_
      refine lv_if_lt (tgt := 26) hx hb d_M_party_14 (by decide) (fun c3 => ?_) (fun c3 => ?_)
      · exact absurd c3 (by decide)
      · refine lv_iload_n hx hb d_M_party_17 rfl (lv_at hl 2 rfl) ?_
        refine lv_iconst (v := nI 4) hx hb d_M_party_18 (by decide) ?_
        refine lv_icmp_gt (tgt := 26) hx hb d_M_party_19 (by decide) (fun c4 => ?_) (fun c4 => ?_)
        · replace c4 := (nI_ltI (by omega) (by omega)).mp c4
          exfalso; omega
        · replace c4 := mt (nI_ltI (by omega) (by omega)).mpr c4
          refine lv_iconst (v := nI 1) hx hb d_M_party_22 (by decide) ?_
          refine lv_goto (tgt := 27) hx hb d_M_party_23 (by decide) ?_
          refine mu_calli (va_runV (As := [.int (nI 1)]) (rest := []) ⟨hx, hb, hml, hown, hts⟩ (m_goes_y l dC dI ad cI cJ cd n tc ki ra po se bc bs op pr pe pm _ ) (cwV 1 hts (wAll_v kw_338 kw_340 ks_12 kw_2 kw_341) rfl rfl rfl (by decide +kernel) ⟨Nat.le_of_ble_eq_true rfl, Nat.le_of_ble_eq_true rfl⟩) (mu_preV hK hP hD (ci := 1) (q0 := 0) rfl rfl) rfl rfl hl.1 rfl (lv_room (Nat.le_of_ble_eq_true rfl)) d_M_party_27 ⟨Nat.le_of_ble_eq_true rfl, Nat.le_of_ble_eq_true rfl⟩) hD hS hA (fun r H locs hq hP hD hS => ?_)
          obtain rfl := hq
          have hP : va_P (dC, dI) vwCl (md_w ad cI cJ 0 n tc ki ra po se bc bs op pr pe pm) H := hP
          have hD : va_D A (md_w ad cI cJ 0 n tc ki ra po se bc bs op pr pe pm) := hD
          refine lv_if_ne (tgt := 35) hx hb d_M_party_30 (by decide) (fun c5 => ?_) (fun c5 => ?_)
          · refine lv_iload_n hx hb d_M_party_35 rfl (lv_at hl 2 rfl) ?_
            refine lv_iconst (v := nI 4) hx hb d_M_party_36 (by decide) ?_
            refine lv_icmp_ge (tgt := 90) hx hb d_M_party_37 (by decide) (fun c6 => ?_) (fun c6 => ?_)
            · replace c6 := (nI_leI (by omega) (by omega)).mp c6
              exfalso; omega
            · replace c6 := mt (nI_leI (by omega) (by omega)).mpr c6
              refine lv_iload_n hx hb d_M_party_40 rfl (lv_at hl 2 rfl) ?_
              refine lv_if_ne (tgt := 53) hx hb d_M_party_41 (by decide) (fun c7 => ?_) (fun c7 => ?_)
              · refine lv_iload_n hx hb d_M_party_53 rfl (lv_at hl 2 rfl) ?_
                refine lv_iconst (v := nI 1) hx hb d_M_party_54 (by decide) ?_
                refine lv_icmp_ne (tgt := 67) hx hb d_M_party_55 (by decide) (fun c8 => ?_) (fun c8 => ?_)
                · replace c8 := mt (nI_eq (by omega) (by omega)).mpr c8
                  refine lv_iload_n hx hb d_M_party_67 rfl (lv_at hl 2 rfl) ?_
                  refine lv_iconst (v := nI 2) hx hb d_M_party_68 (by decide) ?_
                  refine lv_icmp_ne (tgt := 82) hx hb d_M_party_69 (by decide) (fun c9 => ?_) (fun c9 => ?_)
                  · replace c9 := mt (nI_eq (by omega) (by omega)).mpr c9
                    refine lv_aload_n hx hb d_M_party_82 rfl (lv_at hl 0 rfl) ?_
                    refine va_get (D := (dC, dI)) (ci := 1) (v := .ref (ad 2)) (C := "ClearingBooksModel") (T := T_M) (N := 13) hx hb hts wi_M hown hK hP 0 rfl rfl 3 (by decide) (hts _ kw_276) (fun _ h9 => h9) rfl d_M_party_83 ?_
                    refine lv_iload_n hx hb d_M_party_86 rfl (lv_at hl 1 rfl) ?_
                    refine xa_iaload (f := ra) hx hb hK hP 2 0 rfl rfl (j := i) (by omega) (by decide) d_M_party_87 ?_
                    refine lv_i2l (v := (ra i).toInt64) hx hb d_M_party_88 rfl ?_
                    exact W.lret (v := (ra i).toInt64) hx hb hr (fun t ht hW => ⟨⟨(ra i).toInt64, (), rfl, rfl, by rw [ht]; exact hP, va_K.moved hW.alike hK, hD⟩, hS.F ht⟩) hS.2.2 d_M_party_89
                  · replace c9 := (nI_eq (by omega) (by omega)).mp c9
                    exfalso; omega
                · replace c8 := (nI_eq (by omega) (by omega)).mp c8
                  exfalso; omega
              · exact absurd c7 (by decide)
          · exact absurd c5 (by decide)
set_option maxHeartbeats 4000000 in
set_option maxRecDepth 100000 in
theorem m_party_y4 (l : Launch) (dC : Nat → ClassId) (dI : Nat → Nat → Nat) (ad : Nat → Nat) (cI cJ : ClassId) (cd n tc : Nat) (ki ra : Nat → Int32) (po se : Nat → Int64) (bc : Nat → Int32) (bs op : Nat → Int64) (pr pe : Nat → Int32) (pm : Nat → Int64) (sz : Nat) (i : Nat) (hi : i < n) (hn : n ≤ 15) : Met l y_M_party (.code y_M_party b_M_party 5 (some .long) :: wAll) ({ frames := 1, cells := 0, slots := 0, locals := 21 } : Room) (mu_P [.ref (ad 0), .int (nI i), .int (nI 4)] (dC, dI) vwCl [(cI, .int), (cJ, .long)] (md_w ad cI cJ cd n tc ki ra po se bc bs op pr pe pm) sz) (va_Ql (fun (z : Int64) (_ : Unit) => z = (nI (pl po i n)).toInt64) (mu_B (dC, dI) vwCl [(cI, .int), (cJ, .long)] (va_A (md_w ad cI cJ cd n tc ki ra po se bc bs op pr pe pm) sz) (md_w ad cI cJ 0 n tc ki ra po se bc bs op pr pe pm)) (va_A (md_w ad cI cJ cd n tc ki ra po se bc bs op pr pe pm) sz)) 0 0 (va_A (md_w ad cI cJ cd n tc ki ra po se bc bs op pr pe pm) sz) := by
  refine Met.ofW (cc := b_M_party) (maxL := 5) (ret := (some .long)) (by decide) rfl ?_
  intro p e s m args below meth c s₁ B hml hv
  obtain ⟨rfl, hsz, hP, hK, hD0⟩ := hv
  have hx := B.exec
  have hb := B.bytes
  have hr := B.returns
  have hts0 := atoms_spec (ws := (.code y_M_party b_M_party 5 (some .long) :: wAll)) B.pre
  have hts := hts_all hts0
  have hown : s.vm.findClass "ClearingBooksModel" = some m.cls := findClass_of_methodNamed B.named
  have hlocks := B.notSynchronized
  subst hsz
  have hD := hD0.self (sz := s.heap.size)
  generalize hAe : va_A (md_w ad cI cJ cd n tc ki ra po se bc bs op pr pe pm) s.heap.size = A at hD ⊢
  have hA : ∀ q : Nat, s.heap.size ≤ q → A q := fun q h => by rw [← hAe]; exact Or.inr h
  have hS : va_S A s.heap s.heap [] := va_S.rf
  have hl := lv_entry ([.ref (ad 0), .int (nI i), .int (nI 4)]) (n := 5) (Nat.le_of_ble_eq_true rfl)
  rw [lg_entry_eq]
  generalize (lg_sl ([.ref (ad 0), .int (nI i), .int (nI 4)]) ++ List.replicate (5 - (lg_sl ([.ref (ad 0), .int (nI i), .int (nI 4)])).length) Slot.unset).toArray = ls at hl ⊢
  have hl : lv_has ls 5 [(0, .ref (ad 0)), (1, .int (nI i)), (2, .int (nI 4))] := hl
  refine lv_aload_n hx hb d_M_party_0 rfl (lv_at hl 0 rfl) ?_
  refine lv_iload_n hx hb d_M_party_1 rfl (lv_at hl 1 rfl) ?_
  refine lv_if_lt (tgt := 26) hx hb d_M_party_2 (by decide) (fun c1 => ?_) (fun c1 => ?_)
  · exact absurd c1 (nI_pos (by omega))
  · refine lv_iload_n hx hb d_M_party_5 rfl (lv_at hl 1 rfl) ?_
    refine lv_aload_n hx hb d_M_party_6 rfl (lv_at hl 0 rfl) ?_
    refine va_get (D := (dC, dI)) (ci := 1) (v := .int (nI n)) (C := "ClearingBooksModel") (T := T_M) (N := 13) hx hb hts wi_M hown hK hP 0 rfl rfl 1 (by decide) (hts _ kw_274) (fun _ h9 => h9) rfl d_M_party_7 ?_
    refine lv_icmp_ge (tgt := 26) hx hb d_M_party_10 (by decide) (fun c2 => ?_) (fun c2 => ?_)
    · replace c2 := (nI_leI (by omega) (by omega)).mp c2
      exfalso; omega
    · replace c2 := mt (nI_leI (by omega) (by omega)).mpr c2
      refine lv_iload_n hx hb d_M_party_13 rfl (lv_at hl 2 rfl) ?_
      refine lv_if_lt (tgt := 26) hx hb d_M_party_14 (by decide) (fun c3 => ?_) (fun c3 => ?_)
      · exact absurd c3 (by decide)
      · refine lv_iload_n hx hb d_M_party_17 rfl (lv_at hl 2 rfl) ?_
        refine lv_iconst (v := nI 4) hx hb d_M_party_18 (by decide) ?_
        refine lv_icmp_gt (tgt := 26) hx hb d_M_party_19 (by decide) (fun c4 => ?_) (fun c4 => ?_)
        · replace c4 := (nI_ltI (by omega) (by omega)).mp c4
          exfalso; omega
        · replace c4 := mt (nI_ltI (by omega) (by omega)).mpr c4
          refine lv_iconst (v := nI 1) hx hb d_M_party_22 (by decide) ?_
          refine lv_goto (tgt := 27) hx hb d_M_party_23 (by decide) ?_
          refine mu_calli (va_runV (As := [.int (nI 1)]) (rest := []) ⟨hx, hb, hml, hown, hts⟩ (m_goes_y l dC dI ad cI cJ cd n tc ki ra po se bc bs op pr pe pm _ ) (cwV 1 hts (wAll_v kw_338 kw_340 ks_12 kw_2 kw_341) rfl rfl rfl (by decide +kernel) ⟨Nat.le_of_ble_eq_true rfl, Nat.le_of_ble_eq_true rfl⟩) (mu_preV hK hP hD (ci := 1) (q0 := 0) rfl rfl) rfl rfl hl.1 rfl (lv_room (Nat.le_of_ble_eq_true rfl)) d_M_party_27 ⟨Nat.le_of_ble_eq_true rfl, Nat.le_of_ble_eq_true rfl⟩) hD hS hA (fun r H locs hq hP hD hS => ?_)
          obtain rfl := hq
          have hP : va_P (dC, dI) vwCl (md_w ad cI cJ 0 n tc ki ra po se bc bs op pr pe pm) H := hP
          have hD : va_D A (md_w ad cI cJ 0 n tc ki ra po se bc bs op pr pe pm) := hD
          refine lv_if_ne (tgt := 35) hx hb d_M_party_30 (by decide) (fun c5 => ?_) (fun c5 => ?_)
          · refine lv_iload_n hx hb d_M_party_35 rfl (lv_at hl 2 rfl) ?_
            refine lv_iconst (v := nI 4) hx hb d_M_party_36 (by decide) ?_
            refine lv_icmp_ge (tgt := 90) hx hb d_M_party_37 (by decide) (fun c6 => ?_) (fun c6 => ?_)
            · replace c6 := (nI_leI (by omega) (by omega)).mp c6
              refine lv_iconst (v := nI 0) hx hb d_M_party_90 (by decide) ?_
              refine lv_istore_n (lv' := [(3, .int (nI 0)), (0, .ref (ad 0)), (1, .int (nI i)), (2, .int (nI 4))]) hx hb d_M_party_91 rfl hl (by decide) rfl (fun ls hl => ?_)
              refine lv_iconst (v := nI 0) hx hb d_M_party_92 (by decide) ?_
              refine lv_istore (lv' := [(4, .int (nI 0)), (3, .int (nI 0)), (0, .ref (ad 0)), (1, .int (nI i)), (2, .int (nI 4))]) hx hb d_M_party_93 hl (by decide) rfl (fun ls hl => ?_)
              have loop : ∀ (k q : Nat) (ls : Array Slot), q + k = n → lv_has ls 5 [(0, .ref (ad 0)), (1, .int (nI i)), (3, .int (nI (pl po i q))), (4, .int (nI q))] → W p l e (headSpec (.code y_M_party b_M_party 5 (some .long) :: wAll) ({ frames := 1, cells := 0, slots := 0, locals := 21 } : Room)).room s m ([.ref (ad 0), .int (nI i), .int (nI 4)] : List Value).toArray below meth c H locs 0 0 (MQ below (va_Ql (fun (z : Int64) (_ : Unit) => z = (nI (pl po i n)).toInt64) (mu_B (dC, dI) vwCl [(cI, .int), (cJ, .long)] A (md_w ad cI cJ 0 n tc ki ra po se bc bs op pr pe pm)) A) ([.ref (ad 0), .int (nI i), .int (nI 4)] : List Value).toArray s 0 0 A) (F0 m 95 ls []) := by
                intro k
                induction k with
                | zero =>
                  intro q ls hq0 hl
                  have h9 := pl_le po i q
                  refine lv_iload hx hb d_M_party_95 (lv_at hl 3 rfl) ?_
                  refine lv_aload_n hx hb d_M_party_97 rfl (lv_at hl 0 rfl) ?_
                  refine va_get (D := (dC, dI)) (ci := 1) (v := .int (nI n)) (C := "ClearingBooksModel") (T := T_M) (N := 13) hx hb hts wi_M hown hK hP 0 rfl rfl 1 (by decide) (hts _ kw_274) (fun _ h9 => h9) rfl d_M_party_98 ?_
                  refine lv_icmp_ge (tgt := 158) hx hb d_M_party_101 (by decide) (fun c51 => ?_) (fun c51 => ?_)
                  · replace c51 := (nI_leI (by omega) (by omega)).mp c51
                    refine lv_iload_n hx hb d_M_party_158 rfl (lv_at hl 2 rfl) ?_
                    refine lv_i2l (v := (nI (pl po i q)).toInt64) hx hb d_M_party_159 rfl ?_
                    exact W.lret (v := (nI (pl po i q)).toInt64) hx hb hr (fun t ht hW => ⟨⟨(nI (pl po i q)).toInt64, (), rfl, by rw [show n = q by omega], by rw [ht]; exact hP, va_K.moved hW.alike hK, hD⟩, hS.F ht⟩) hS.2.2 d_M_party_160
                  · replace c51 := mt (nI_leI (by omega) (by omega)).mpr c51
                    exfalso; omega
                | succ k ih =>
                  intro q ls hq0 hl
                  have h9 := pl_le po i q
                  refine lv_iload hx hb d_M_party_95 (lv_at hl 3 rfl) ?_
                  refine lv_aload_n hx hb d_M_party_97 rfl (lv_at hl 0 rfl) ?_
                  refine va_get (D := (dC, dI)) (ci := 1) (v := .int (nI n)) (C := "ClearingBooksModel") (T := T_M) (N := 13) hx hb hts wi_M hown hK hP 0 rfl rfl 1 (by decide) (hts _ kw_274) (fun _ h9 => h9) rfl d_M_party_98 ?_
                  refine lv_icmp_ge (tgt := 158) hx hb d_M_party_101 (by decide) (fun c51 => ?_) (fun c51 => ?_)
                  · replace c51 := (nI_leI (by omega) (by omega)).mp c51
                    exfalso; omega
                  · replace c51 := mt (nI_leI (by omega) (by omega)).mpr c51
                    refine lv_iload_n hx hb d_M_party_104 rfl (lv_at hl 2 rfl) ?_
                    refine lv_aload_n hx hb d_M_party_105 rfl (lv_at hl 0 rfl) ?_
                    refine va_get (D := (dC, dI)) (ci := 1) (v := .ref (ad 3)) (C := "ClearingBooksModel") (T := T_M) (N := 13) hx hb hts wi_M hown hK hP 0 rfl rfl 4 (by decide) (hts _ kw_277) (fun _ h9 => h9) rfl d_M_party_106 ?_
                    refine lv_iload hx hb d_M_party_109 (lv_at hl 3 rfl) ?_
                    refine xa_laload (f := po) hx hb hK hP 3 1 rfl rfl (j := q) (by omega) (by decide) d_M_party_111 ?_
                    refine lv_aload_n hx hb d_M_party_112 rfl (lv_at hl 0 rfl) ?_
                    refine va_get (D := (dC, dI)) (ci := 1) (v := .ref (ad 3)) (C := "ClearingBooksModel") (T := T_M) (N := 13) hx hb hts wi_M hown hK hP 0 rfl rfl 4 (by decide) (hts _ kw_277) (fun _ h9 => h9) rfl d_M_party_113 ?_
                    refine lv_iload_n hx hb d_M_party_116 rfl (lv_at hl 1 rfl) ?_
                    refine xa_laload (f := po) hx hb hK hP 3 1 rfl rfl (j := i) (by omega) (by decide) d_M_party_117 ?_
                    refine W.lcmp hx hb d_M_party_118 ?_
                    refine lv_if_gt (tgt := 145) hx hb d_M_party_119 (by decide) (fun c52 => ?_) (fun c52 => ?_)
                    · replace c52 := (lg_cmp_gt _ _).mp c52
                      refine lv_iconst (v := nI 1) hx hb d_M_party_145 (by decide) ?_
                      refine lv_goto (tgt := 150) hx hb d_M_party_146 (by decide) ?_
                      refine t_iadd hx hb d_M_party_150 (v := nI ((pl po i q) + 1)) (nI_add (pl po i q) 1) ?_
                      refine lv_istore_n (lv' := [(3, .int (nI ((pl po i q) + 1))), (0, .ref (ad 0)), (1, .int (nI i)), (4, .int (nI q))]) hx hb d_M_party_151 rfl hl (by decide) rfl (fun ls hl => ?_)
                      refine lv_iinc (v := nI (q + 1)) (lv' := [(4, .int (nI (q + 1))), (3, .int (nI ((pl po i q) + 1))), (0, .ref (ad 0)), (1, .int (nI i))]) hx hb d_M_party_152 hl (k := 3) rfl (nI_1 q) (by decide) rfl (fun ls hl => ?_)
                      refine lv_goto (tgt := 95) hx hb d_M_party_155 (by decide) ?_
                      have hq : (po i < po q ∨ (po q = po i ∧ q < i)) := by first | exact Or.inl (by assumption) | exact Or.inr ⟨by assumption, by omega⟩ | (rintro (h8 | ⟨h8, h7⟩) <;> first | contradiction | omega)
                      exact ih (q + 1) ls (by omega) (by rw [pl_y hq]; exact lv_sub hl [2, 3, 1, 0] rfl)
                    · replace c52 := mt (lg_cmp_gt _ _).mpr c52
                      refine lv_aload_n hx hb d_M_party_122 rfl (lv_at hl 0 rfl) ?_
                      refine va_get (D := (dC, dI)) (ci := 1) (v := .ref (ad 3)) (C := "ClearingBooksModel") (T := T_M) (N := 13) hx hb hts wi_M hown hK hP 0 rfl rfl 4 (by decide) (hts _ kw_277) (fun _ h9 => h9) rfl d_M_party_123 ?_
                      refine lv_iload hx hb d_M_party_126 (lv_at hl 3 rfl) ?_
                      refine xa_laload (f := po) hx hb hK hP 3 1 rfl rfl (j := q) (by omega) (by decide) d_M_party_128 ?_
                      refine lv_aload_n hx hb d_M_party_129 rfl (lv_at hl 0 rfl) ?_
                      refine va_get (D := (dC, dI)) (ci := 1) (v := .ref (ad 3)) (C := "ClearingBooksModel") (T := T_M) (N := 13) hx hb hts wi_M hown hK hP 0 rfl rfl 4 (by decide) (hts _ kw_277) (fun _ h9 => h9) rfl d_M_party_130 ?_
                      refine lv_iload_n hx hb d_M_party_133 rfl (lv_at hl 1 rfl) ?_
                      refine xa_laload (f := po) hx hb hK hP 3 1 rfl rfl (j := i) (by omega) (by decide) d_M_party_134 ?_
                      refine W.lcmp hx hb d_M_party_135 ?_
                      refine lv_if_ne (tgt := 149) hx hb d_M_party_136 (by decide) (fun c53 => ?_) (fun c53 => ?_)
                      · replace c53 := mt (lg_cmp_eq _ _).mpr c53
                        refine lv_iconst (v := nI 0) hx hb d_M_party_149 (by decide) ?_
                        refine t_iadd hx hb d_M_party_150 (v := nI ((pl po i q) + 0)) (nI_add (pl po i q) 0) ?_
                        refine lv_istore_n (lv' := [(3, .int (nI ((pl po i q) + 0))), (0, .ref (ad 0)), (1, .int (nI i)), (4, .int (nI q))]) hx hb d_M_party_151 rfl hl (by decide) rfl (fun ls hl => ?_)
                        refine lv_iinc (v := nI (q + 1)) (lv' := [(4, .int (nI (q + 1))), (3, .int (nI ((pl po i q) + 0))), (0, .ref (ad 0)), (1, .int (nI i))]) hx hb d_M_party_152 hl (k := 3) rfl (nI_1 q) (by decide) rfl (fun ls hl => ?_)
                        refine lv_goto (tgt := 95) hx hb d_M_party_155 (by decide) ?_
                        have hq : ¬ (po i < po q ∨ (po q = po i ∧ q < i)) := by first | exact Or.inl (by assumption) | exact Or.inr ⟨by assumption, by omega⟩ | (rintro (h8 | ⟨h8, h7⟩) <;> first | contradiction | omega)
                        exact ih (q + 1) ls (by omega) (by rw [pl_n hq]; exact lv_sub hl [2, 3, 1, 0] rfl)
                      · replace c53 := (lg_cmp_eq _ _).mp c53
                        refine lv_iload hx hb d_M_party_139 (lv_at hl 3 rfl) ?_
                        refine lv_iload_n hx hb d_M_party_141 rfl (lv_at hl 1 rfl) ?_
                        refine lv_icmp_ge (tgt := 149) hx hb d_M_party_142 (by decide) (fun c54 => ?_) (fun c54 => ?_)
                        · replace c54 := (nI_leI (by omega) (by omega)).mp c54
                          refine lv_iconst (v := nI 0) hx hb d_M_party_149 (by decide) ?_
                          refine t_iadd hx hb d_M_party_150 (v := nI ((pl po i q) + 0)) (nI_add (pl po i q) 0) ?_
                          refine lv_istore_n (lv' := [(3, .int (nI ((pl po i q) + 0))), (0, .ref (ad 0)), (1, .int (nI i)), (4, .int (nI q))]) hx hb d_M_party_151 rfl hl (by decide) rfl (fun ls hl => ?_)
                          refine lv_iinc (v := nI (q + 1)) (lv' := [(4, .int (nI (q + 1))), (3, .int (nI ((pl po i q) + 0))), (0, .ref (ad 0)), (1, .int (nI i))]) hx hb d_M_party_152 hl (k := 3) rfl (nI_1 q) (by decide) rfl (fun ls hl => ?_)
                          refine lv_goto (tgt := 95) hx hb d_M_party_155 (by decide) ?_
                          have hq : ¬ (po i < po q ∨ (po q = po i ∧ q < i)) := by first | exact Or.inl (by assumption) | exact Or.inr ⟨by assumption, by omega⟩ | (rintro (h8 | ⟨h8, h7⟩) <;> first | contradiction | omega)
                          exact ih (q + 1) ls (by omega) (by rw [pl_n hq]; exact lv_sub hl [2, 3, 1, 0] rfl)
                        · replace c54 := mt (nI_leI (by omega) (by omega)).mpr c54
                          refine lv_iconst (v := nI 1) hx hb d_M_party_145 (by decide) ?_
                          refine lv_goto (tgt := 150) hx hb d_M_party_146 (by decide) ?_
                          refine t_iadd hx hb d_M_party_150 (v := nI ((pl po i q) + 1)) (nI_add (pl po i q) 1) ?_
                          refine lv_istore_n (lv' := [(3, .int (nI ((pl po i q) + 1))), (0, .ref (ad 0)), (1, .int (nI i)), (4, .int (nI q))]) hx hb d_M_party_151 rfl hl (by decide) rfl (fun ls hl => ?_)
                          refine lv_iinc (v := nI (q + 1)) (lv' := [(4, .int (nI (q + 1))), (3, .int (nI ((pl po i q) + 1))), (0, .ref (ad 0)), (1, .int (nI i))]) hx hb d_M_party_152 hl (k := 3) rfl (nI_1 q) (by decide) rfl (fun ls hl => ?_)
                          refine lv_goto (tgt := 95) hx hb d_M_party_155 (by decide) ?_
                          have hq : (po i < po q ∨ (po q = po i ∧ q < i)) := by first | exact Or.inl (by assumption) | exact Or.inr ⟨by assumption, by omega⟩ | (rintro (h8 | ⟨h8, h7⟩) <;> first | contradiction | omega)
                          exact ih (q + 1) ls (by omega) (by rw [pl_y hq]; exact lv_sub hl [2, 3, 1, 0] rfl)
              exact loop n 0 ls (by omega) (lv_sub hl [2, 3, 1, 0] rfl)
            · replace c6 := mt (nI_leI (by omega) (by omega)).mpr c6
              exfalso; omega
          · exact absurd c5 (by decide)
set_option maxHeartbeats 4000000 in
set_option maxRecDepth 100000 in
theorem m_party_tk (l : Launch) (dC : Nat → ClassId) (dI : Nat → Nat → Nat) (ad : Nat → Nat) (cI cJ : ClassId) (cd n tc : Nat) (ki ra : Nat → Int32) (po se : Nat → Int64) (bc : Nat → Int32) (bs op : Nat → Int64) (pr pe : Nat → Int32) (pm : Nat → Int64) (sz : Nat) (x k : Int32) (hno : ¬ (¬ x < 0 ∧ x < nI n)) : Met l y_M_party (.code y_M_party b_M_party 5 (some .long) :: wAll) ({ frames := 1, cells := 0, slots := 0, locals := 21 } : Room) (mu_P [.ref (ad 0), .int x, .int k] (dC, dI) vwCl [(cI, .int), (cJ, .long)] (md_w ad cI cJ cd n tc ki ra po se bc bs op pr pe pm) sz) (va_Ql (fun (z : Int64) (_ : Unit) => z = 0) (mu_B (dC, dI) vwCl [(cI, .int), (cJ, .long)] (va_A (md_w ad cI cJ cd n tc ki ra po se bc bs op pr pe pm) sz) (md_w ad cI cJ 1 n tc ki ra po se bc bs op pr pe pm)) (va_A (md_w ad cI cJ cd n tc ki ra po se bc bs op pr pe pm) sz)) 0 0 (va_A (md_w ad cI cJ cd n tc ki ra po se bc bs op pr pe pm) sz) := by
  refine Met.ofW (cc := b_M_party) (maxL := 5) (ret := (some .long)) (by decide) rfl ?_
  intro p e s m args below meth c s₁ B hml hv
  obtain ⟨rfl, hsz, hP, hK, hD0⟩ := hv
  have hx := B.exec
  have hb := B.bytes
  have hr := B.returns
  have hts0 := atoms_spec (ws := (.code y_M_party b_M_party 5 (some .long) :: wAll)) B.pre
  have hts := hts_all hts0
  have hown : s.vm.findClass "ClearingBooksModel" = some m.cls := findClass_of_methodNamed B.named
  have hlocks := B.notSynchronized
  subst hsz
  have hD := hD0.self (sz := s.heap.size)
  generalize hAe : va_A (md_w ad cI cJ cd n tc ki ra po se bc bs op pr pe pm) s.heap.size = A at hD ⊢
  have hA : ∀ q : Nat, s.heap.size ≤ q → A q := fun q h => by rw [← hAe]; exact Or.inr h
  have hS : va_S A s.heap s.heap [] := va_S.rf
  have hl := lv_entry ([.ref (ad 0), .int x, .int k]) (n := 5) (Nat.le_of_ble_eq_true rfl)
  rw [lg_entry_eq]
  generalize (lg_sl ([.ref (ad 0), .int x, .int k]) ++ List.replicate (5 - (lg_sl ([.ref (ad 0), .int x, .int k])).length) Slot.unset).toArray = ls at hl ⊢
  have hl : lv_has ls 5 [(0, .ref (ad 0)), (1, .int x), (2, .int k)] := hl
  refine lv_aload_n hx hb d_M_party_0 rfl (lv_at hl 0 rfl) ?_
  refine lv_iload_n hx hb d_M_party_1 rfl (lv_at hl 1 rfl) ?_
  refine lv_if_lt (tgt := 26) hx hb d_M_party_2 (by decide) (fun c1 => ?_) (fun c1 => ?_)
  · refine lv_iconst (v := nI 0) hx hb d_M_party_26 (by decide) ?_
    refine mu_calli (va_runV (As := [.int (nI 0)]) (rest := []) ⟨hx, hb, hml, hown, hts⟩ (m_goes_n l dC dI ad cI cJ cd n tc ki ra po se bc bs op pr pe pm _ ) (cwV 1 hts (wAll_v kw_338 kw_340 ks_12 kw_2 kw_341) rfl rfl rfl (by decide +kernel) ⟨Nat.le_of_ble_eq_true rfl, Nat.le_of_ble_eq_true rfl⟩) (mu_preV hK hP hD (ci := 1) (q0 := 0) rfl rfl) rfl rfl hl.1 rfl (lv_room (Nat.le_of_ble_eq_true rfl)) d_M_party_27 ⟨Nat.le_of_ble_eq_true rfl, Nat.le_of_ble_eq_true rfl⟩) hD hS hA (fun r H locs hq hP hD hS => ?_)
    obtain rfl := hq
    have hP : va_P (dC, dI) vwCl (md_w ad cI cJ 1 n tc ki ra po se bc bs op pr pe pm) H := hP
    have hD : va_D A (md_w ad cI cJ 1 n tc ki ra po se bc bs op pr pe pm) := hD
    refine lv_if_ne (tgt := 35) hx hb d_M_party_30 (by decide) (fun c2 => ?_) (fun c2 => ?_)
    · exact absurd rfl c2
    · refine lv_lconst (v := 0) hx hb d_M_party_33 (by decide) ?_
      exact W.lret (v := 0) hx hb hr (fun t ht hW => ⟨⟨0, (), rfl, rfl, by rw [ht]; exact hP, va_K.moved hW.alike hK, hD⟩, hS.F ht⟩) hS.2.2 d_M_party_34
  · refine lv_iload_n hx hb d_M_party_5 rfl (lv_at hl 1 rfl) ?_
    refine lv_aload_n hx hb d_M_party_6 rfl (lv_at hl 0 rfl) ?_
    refine va_get (D := (dC, dI)) (ci := 1) (v := .int (nI n)) (C := "ClearingBooksModel") (T := T_M) (N := 13) hx hb hts wi_M hown hK hP 0 rfl rfl 1 (by decide) (hts _ kw_274) (fun _ h9 => h9) rfl d_M_party_7 ?_
    refine lv_icmp_ge (tgt := 26) hx hb d_M_party_10 (by decide) (fun c3 => ?_) (fun c3 => ?_)
    · refine lv_iconst (v := nI 0) hx hb d_M_party_26 (by decide) ?_
      refine mu_calli (va_runV (As := [.int (nI 0)]) (rest := []) ⟨hx, hb, hml, hown, hts⟩ (m_goes_n l dC dI ad cI cJ cd n tc ki ra po se bc bs op pr pe pm _ ) (cwV 1 hts (wAll_v kw_338 kw_340 ks_12 kw_2 kw_341) rfl rfl rfl (by decide +kernel) ⟨Nat.le_of_ble_eq_true rfl, Nat.le_of_ble_eq_true rfl⟩) (mu_preV hK hP hD (ci := 1) (q0 := 0) rfl rfl) rfl rfl hl.1 rfl (lv_room (Nat.le_of_ble_eq_true rfl)) d_M_party_27 ⟨Nat.le_of_ble_eq_true rfl, Nat.le_of_ble_eq_true rfl⟩) hD hS hA (fun r H locs hq hP hD hS => ?_)
      obtain rfl := hq
      have hP : va_P (dC, dI) vwCl (md_w ad cI cJ 1 n tc ki ra po se bc bs op pr pe pm) H := hP
      have hD : va_D A (md_w ad cI cJ 1 n tc ki ra po se bc bs op pr pe pm) := hD
      refine lv_if_ne (tgt := 35) hx hb d_M_party_30 (by decide) (fun c4 => ?_) (fun c4 => ?_)
      · exact absurd rfl c4
      · refine lv_lconst (v := 0) hx hb d_M_party_33 (by decide) ?_
        exact W.lret (v := 0) hx hb hr (fun t ht hW => ⟨⟨0, (), rfl, rfl, by rw [ht]; exact hP, va_K.moved hW.alike hK, hD⟩, hS.F ht⟩) hS.2.2 d_M_party_34
    · exact absurd ⟨c1, Int32.not_le.mp c3⟩ hno
set_option maxHeartbeats 4000000 in
set_option maxRecDepth 100000 in
theorem m_party_tw (l : Launch) (dC : Nat → ClassId) (dI : Nat → Nat → Nat) (ad : Nat → Nat) (cI cJ : ClassId) (cd n tc : Nat) (ki ra : Nat → Int32) (po se : Nat → Int64) (bc : Nat → Int32) (bs op : Nat → Int64) (pr pe : Nat → Int32) (pm : Nat → Int64) (sz : Nat) (i : Nat) (k : Int32) (hi : i < n) (hn : n ≤ 15) (hw : k.toInt < 0 ∨ 4 < k.toInt) : Met l y_M_party (.code y_M_party b_M_party 5 (some .long) :: wAll) ({ frames := 1, cells := 0, slots := 0, locals := 21 } : Room) (mu_P [.ref (ad 0), .int (nI i), .int k] (dC, dI) vwCl [(cI, .int), (cJ, .long)] (md_w ad cI cJ cd n tc ki ra po se bc bs op pr pe pm) sz) (va_Ql (fun (z : Int64) (_ : Unit) => z = 0) (mu_B (dC, dI) vwCl [(cI, .int), (cJ, .long)] (va_A (md_w ad cI cJ cd n tc ki ra po se bc bs op pr pe pm) sz) (md_w ad cI cJ 1 n tc ki ra po se bc bs op pr pe pm)) (va_A (md_w ad cI cJ cd n tc ki ra po se bc bs op pr pe pm) sz)) 0 0 (va_A (md_w ad cI cJ cd n tc ki ra po se bc bs op pr pe pm) sz) := by
  refine Met.ofW (cc := b_M_party) (maxL := 5) (ret := (some .long)) (by decide) rfl ?_
  intro p e s m args below meth c s₁ B hml hv
  obtain ⟨rfl, hsz, hP, hK, hD0⟩ := hv
  have hx := B.exec
  have hb := B.bytes
  have hr := B.returns
  have hts0 := atoms_spec (ws := (.code y_M_party b_M_party 5 (some .long) :: wAll)) B.pre
  have hts := hts_all hts0
  have hown : s.vm.findClass "ClearingBooksModel" = some m.cls := findClass_of_methodNamed B.named
  have hlocks := B.notSynchronized
  subst hsz
  have hD := hD0.self (sz := s.heap.size)
  generalize hAe : va_A (md_w ad cI cJ cd n tc ki ra po se bc bs op pr pe pm) s.heap.size = A at hD ⊢
  have hA : ∀ q : Nat, s.heap.size ≤ q → A q := fun q h => by rw [← hAe]; exact Or.inr h
  have hS : va_S A s.heap s.heap [] := va_S.rf
  have hl := lv_entry ([.ref (ad 0), .int (nI i), .int k]) (n := 5) (Nat.le_of_ble_eq_true rfl)
  rw [lg_entry_eq]
  generalize (lg_sl ([.ref (ad 0), .int (nI i), .int k]) ++ List.replicate (5 - (lg_sl ([.ref (ad 0), .int (nI i), .int k])).length) Slot.unset).toArray = ls at hl ⊢
  have hl : lv_has ls 5 [(0, .ref (ad 0)), (1, .int (nI i)), (2, .int k)] := hl
  refine lv_aload_n hx hb d_M_party_0 rfl (lv_at hl 0 rfl) ?_
  refine lv_iload_n hx hb d_M_party_1 rfl (lv_at hl 1 rfl) ?_
  refine lv_if_lt (tgt := 26) hx hb d_M_party_2 (by decide) (fun c1 => ?_) (fun c1 => ?_)
  · exact absurd c1 (nI_pos (by omega))
  · refine lv_iload_n hx hb d_M_party_5 rfl (lv_at hl 1 rfl) ?_
    refine lv_aload_n hx hb d_M_party_6 rfl (lv_at hl 0 rfl) ?_
    refine va_get (D := (dC, dI)) (ci := 1) (v := .int (nI n)) (C := "ClearingBooksModel") (T := T_M) (N := 13) hx hb hts wi_M hown hK hP 0 rfl rfl 1 (by decide) (hts _ kw_274) (fun _ h9 => h9) rfl d_M_party_7 ?_
    refine lv_icmp_ge (tgt := 26) hx hb d_M_party_10 (by decide) (fun c2 => ?_) (fun c2 => ?_)
    · replace c2 := (nI_leI (by omega) (by omega)).mp c2
      exfalso; omega
    · replace c2 := mt (nI_leI (by omega) (by omega)).mpr c2
      refine lv_iload_n hx hb d_M_party_13 rfl (lv_at hl 2 rfl) ?_
      refine lv_if_lt (tgt := 26) hx hb d_M_party_14 (by decide) (fun c3 => ?_) (fun c3 => ?_)
      · refine lv_iconst (v := nI 0) hx hb d_M_party_26 (by decide) ?_
        refine mu_calli (va_runV (As := [.int (nI 0)]) (rest := []) ⟨hx, hb, hml, hown, hts⟩ (m_goes_n l dC dI ad cI cJ cd n tc ki ra po se bc bs op pr pe pm _ ) (cwV 1 hts (wAll_v kw_338 kw_340 ks_12 kw_2 kw_341) rfl rfl rfl (by decide +kernel) ⟨Nat.le_of_ble_eq_true rfl, Nat.le_of_ble_eq_true rfl⟩) (mu_preV hK hP hD (ci := 1) (q0 := 0) rfl rfl) rfl rfl hl.1 rfl (lv_room (Nat.le_of_ble_eq_true rfl)) d_M_party_27 ⟨Nat.le_of_ble_eq_true rfl, Nat.le_of_ble_eq_true rfl⟩) hD hS hA (fun r H locs hq hP hD hS => ?_)
        obtain rfl := hq
        have hP : va_P (dC, dI) vwCl (md_w ad cI cJ 1 n tc ki ra po se bc bs op pr pe pm) H := hP
        have hD : va_D A (md_w ad cI cJ 1 n tc ki ra po se bc bs op pr pe pm) := hD
        refine lv_if_ne (tgt := 35) hx hb d_M_party_30 (by decide) (fun c4 => ?_) (fun c4 => ?_)
        · exact absurd rfl c4
        · refine lv_lconst (v := 0) hx hb d_M_party_33 (by decide) ?_
          exact W.lret (v := 0) hx hb hr (fun t ht hW => ⟨⟨0, (), rfl, rfl, by rw [ht]; exact hP, va_K.moved hW.alike hK, hD⟩, hS.F ht⟩) hS.2.2 d_M_party_34
      · refine lv_iload_n hx hb d_M_party_17 rfl (lv_at hl 2 rfl) ?_
        refine lv_iconst (v := nI 4) hx hb d_M_party_18 (by decide) ?_
        refine lv_icmp_gt (tgt := 26) hx hb d_M_party_19 (by decide) (fun c5 => ?_) (fun c5 => ?_)
        · refine lv_iconst (v := nI 0) hx hb d_M_party_26 (by decide) ?_
          refine mu_calli (va_runV (As := [.int (nI 0)]) (rest := []) ⟨hx, hb, hml, hown, hts⟩ (m_goes_n l dC dI ad cI cJ cd n tc ki ra po se bc bs op pr pe pm _ ) (cwV 1 hts (wAll_v kw_338 kw_340 ks_12 kw_2 kw_341) rfl rfl rfl (by decide +kernel) ⟨Nat.le_of_ble_eq_true rfl, Nat.le_of_ble_eq_true rfl⟩) (mu_preV hK hP hD (ci := 1) (q0 := 0) rfl rfl) rfl rfl hl.1 rfl (lv_room (Nat.le_of_ble_eq_true rfl)) d_M_party_27 ⟨Nat.le_of_ble_eq_true rfl, Nat.le_of_ble_eq_true rfl⟩) hD hS hA (fun r H locs hq hP hD hS => ?_)
          obtain rfl := hq
          have hP : va_P (dC, dI) vwCl (md_w ad cI cJ 1 n tc ki ra po se bc bs op pr pe pm) H := hP
          have hD : va_D A (md_w ad cI cJ 1 n tc ki ra po se bc bs op pr pe pm) := hD
          refine lv_if_ne (tgt := 35) hx hb d_M_party_30 (by decide) (fun c6 => ?_) (fun c6 => ?_)
          · exact absurd rfl c6
          · refine lv_lconst (v := 0) hx hb d_M_party_33 (by decide) ?_
            exact W.lret (v := 0) hx hb hr (fun t ht hW => ⟨⟨0, (), rfl, rfl, by rw [ht]; exact hP, va_K.moved hW.alike hK, hD⟩, hS.F ht⟩) hS.2.2 d_M_party_34
        · exact absurd hw (tw_no (m := 4) (by decide) c3 c5)
set_option maxHeartbeats 4000000 in
set_option maxRecDepth 100000 in
theorem m_parties (l : Launch) (dC : Nat → ClassId) (dI : Nat → Nat → Nat) (ad : Nat → Nat) (cI cJ : ClassId) (cd n tc : Nat) (ki ra : Nat → Int32) (po se : Nat → Int64) (bc : Nat → Int32) (bs op : Nat → Int64) (pr pe : Nat → Int32) (pm : Nat → Int64) (sz : Nat)  : Met l y_M_parties (.code y_M_parties b_M_parties 1 (some .int) :: wAll) ({ frames := 0, cells := 0, slots := 0, locals := 0 } : Room) (mu_P [.ref (ad 0)] (dC, dI) vwCl [(cI, .int), (cJ, .long)] (md_w ad cI cJ cd n tc ki ra po se bc bs op pr pe pm) sz) (va_Qi (fun (z : Int32) (_ : Unit) => z = nI n) (mu_B (dC, dI) vwCl [(cI, .int), (cJ, .long)] (va_A (md_w ad cI cJ cd n tc ki ra po se bc bs op pr pe pm) sz) (md_w ad cI cJ 0 n tc ki ra po se bc bs op pr pe pm)) (va_A (md_w ad cI cJ cd n tc ki ra po se bc bs op pr pe pm) sz)) 0 0 (va_A (md_w ad cI cJ cd n tc ki ra po se bc bs op pr pe pm) sz) := by
  refine Met.ofW (cc := b_M_parties) (maxL := 1) (ret := (some .int)) (by decide) rfl ?_
  intro p e s m args below meth c s₁ B hml hv
  obtain ⟨rfl, hsz, hP, hK, hD0⟩ := hv
  have hx := B.exec
  have hb := B.bytes
  have hr := B.returns
  have hts0 := atoms_spec (ws := (.code y_M_parties b_M_parties 1 (some .int) :: wAll)) B.pre
  have hts := hts_all hts0
  have hown : s.vm.findClass "ClearingBooksModel" = some m.cls := findClass_of_methodNamed B.named
  have hlocks := B.notSynchronized
  subst hsz
  have hD := hD0.self (sz := s.heap.size)
  generalize hAe : va_A (md_w ad cI cJ cd n tc ki ra po se bc bs op pr pe pm) s.heap.size = A at hD ⊢
  have hA : ∀ q : Nat, s.heap.size ≤ q → A q := fun q h => by rw [← hAe]; exact Or.inr h
  have hS : va_S A s.heap s.heap [] := va_S.rf
  have hl := lv_entry ([.ref (ad 0)]) (n := 1) (Nat.le_of_ble_eq_true rfl)
  rw [lg_entry_eq]
  generalize (lg_sl ([.ref (ad 0)]) ++ List.replicate (1 - (lg_sl ([.ref (ad 0)])).length) Slot.unset).toArray = ls at hl ⊢
  have hl : lv_has ls 1 [(0, .ref (ad 0))] := hl
  refine lv_aload_n hx hb d_M_parties_0 rfl (lv_at hl 0 rfl) ?_
  refine lv_iconst (v := nI 0) hx hb d_M_parties_1 (by decide) ?_
  refine va_put (D := (dC, dI)) (ci := 1) (v := .int (nI 0)) (ty := .int) (C := "ClearingBooksModel") (T := T_M) (N := 13) hx hb hts wi_M ty_M tyok_M nm_M hown hK hP hD hS 0 rfl rfl 0 (by decide) (hts _ kw_273) (fun _ h9 => h9) rfl (by decide +kernel) rfl rfl (Nat.le_of_ble_eq_true rfl) d_M_parties_2 (fun H locs hP hD hS => ?_)
  have hP : va_P (dC, dI) vwCl (md_w ad cI cJ 0 n tc ki ra po se bc bs op pr pe pm) H := hP
  have hD : va_D A (md_w ad cI cJ 0 n tc ki ra po se bc bs op pr pe pm) := hD
  refine lv_aload_n hx hb d_M_parties_5 rfl (lv_at hl 0 rfl) ?_
  refine va_get (D := (dC, dI)) (ci := 1) (v := .int (nI n)) (C := "ClearingBooksModel") (T := T_M) (N := 13) hx hb hts wi_M hown hK hP 0 rfl rfl 1 (by decide) (hts _ kw_274) (fun _ h9 => h9) rfl d_M_parties_6 ?_
  exact W.iret (v := nI n) hx hb hr (fun t ht hW => ⟨⟨nI n, (), rfl, rfl, by rw [ht]; exact hP, va_K.moved hW.alike hK, hD⟩, hS.F ht⟩) hS.2.2 d_M_parties_9
set_option maxHeartbeats 4000000 in
set_option maxRecDepth 100000 in
theorem m_audit (l : Launch) (dC : Nat → ClassId) (dI : Nat → Nat → Nat) (ad : Nat → Nat) (cI cJ : ClassId) (cd n tc : Nat) (ki ra : Nat → Int32) (po se : Nat → Int64) (bc : Nat → Int32) (bs op : Nat → Int64) (pr pe : Nat → Int32) (pm : Nat → Int64) (sz : Nat)  : Met l y_M_audit (.code y_M_audit b_M_audit 1 (some .int) :: wAll) ({ frames := 0, cells := 0, slots := 0, locals := 0 } : Room) (mu_P [.ref (ad 0)] (dC, dI) vwCl [(cI, .int), (cJ, .long)] (md_w ad cI cJ cd n tc ki ra po se bc bs op pr pe pm) sz) (va_Qi (fun (z : Int32) (_ : Unit) => z = nI 0) (mu_B (dC, dI) vwCl [(cI, .int), (cJ, .long)] (va_A (md_w ad cI cJ cd n tc ki ra po se bc bs op pr pe pm) sz) (md_w ad cI cJ 0 n tc ki ra po se bc bs op pr pe pm)) (va_A (md_w ad cI cJ cd n tc ki ra po se bc bs op pr pe pm) sz)) 0 0 (va_A (md_w ad cI cJ cd n tc ki ra po se bc bs op pr pe pm) sz) := by
  refine Met.ofW (cc := b_M_audit) (maxL := 1) (ret := (some .int)) (by decide) rfl ?_
  intro p e s m args below meth c s₁ B hml hv
  obtain ⟨rfl, hsz, hP, hK, hD0⟩ := hv
  have hx := B.exec
  have hb := B.bytes
  have hr := B.returns
  have hts0 := atoms_spec (ws := (.code y_M_audit b_M_audit 1 (some .int) :: wAll)) B.pre
  have hts := hts_all hts0
  have hown : s.vm.findClass "ClearingBooksModel" = some m.cls := findClass_of_methodNamed B.named
  have hlocks := B.notSynchronized
  subst hsz
  have hD := hD0.self (sz := s.heap.size)
  generalize hAe : va_A (md_w ad cI cJ cd n tc ki ra po se bc bs op pr pe pm) s.heap.size = A at hD ⊢
  have hA : ∀ q : Nat, s.heap.size ≤ q → A q := fun q h => by rw [← hAe]; exact Or.inr h
  have hS : va_S A s.heap s.heap [] := va_S.rf
  have hl := lv_entry ([.ref (ad 0)]) (n := 1) (Nat.le_of_ble_eq_true rfl)
  rw [lg_entry_eq]
  generalize (lg_sl ([.ref (ad 0)]) ++ List.replicate (1 - (lg_sl ([.ref (ad 0)])).length) Slot.unset).toArray = ls at hl ⊢
  have hl : lv_has ls 1 [(0, .ref (ad 0))] := hl
  refine lv_aload_n hx hb d_M_audit_0 rfl (lv_at hl 0 rfl) ?_
  refine lv_iconst (v := nI 0) hx hb d_M_audit_1 (by decide) ?_
  refine va_put (D := (dC, dI)) (ci := 1) (v := .int (nI 0)) (ty := .int) (C := "ClearingBooksModel") (T := T_M) (N := 13) hx hb hts wi_M ty_M tyok_M nm_M hown hK hP hD hS 0 rfl rfl 0 (by decide) (hts _ kw_273) (fun _ h9 => h9) rfl (by decide +kernel) rfl rfl (Nat.le_of_ble_eq_true rfl) d_M_audit_2 (fun H locs hP hD hS => ?_)
  have hP : va_P (dC, dI) vwCl (md_w ad cI cJ 0 n tc ki ra po se bc bs op pr pe pm) H := hP
  have hD : va_D A (md_w ad cI cJ 0 n tc ki ra po se bc bs op pr pe pm) := hD
  refine lv_iconst (v := nI 0) hx hb d_M_audit_5 (by decide) ?_
  exact W.iret (v := nI 0) hx hb hr (fun t ht hW => ⟨⟨nI 0, (), rfl, rfl, by rw [ht]; exact hP, va_K.moved hW.alike hK, hD⟩, hS.F ht⟩) hS.2.2 d_M_audit_6
