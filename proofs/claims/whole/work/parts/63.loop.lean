set_option maxHeartbeats 4000000 in
set_option maxRecDepth 100000 in
theorem law_loop {p : Program} {l : Launch} {e : Env} {s : State} {m : MethodId} {below : List Frame} {meth : Method} {c : Code} {dC : Nat → ClassId} {dI : Nat → Nat → Nat} {b L : Nat} {xs : Nat → Int32} (hl0 : l.stackTraces = false) (hL : L ≤ 2560) (C0 : lw_At p s m meth c b L xs) (hX0 : xc_ok "ClearingBooks" cb_ks s) {cI cJ : ClassId} (hK : va_K (dC, dI) vwCl [(cI, .int), (cJ, .long)] s) {ad ad2 : Nat → Nat} {o : Nat} : ∀ (k t : Nat) (bb : ST) (ov : Nat → Int64) (cd : Nat) (H : Heap) (locs : List Loc) (ls : Array Slot), t + k = 512 → invS t bb → va_P (dC, dI) vwCl ((cbS ad cI cJ bb ++ [(o, .inl (cJ, 1, .inr (.inl ov)))]) ++ mdS ad2 cI cJ cd bb) H → va_D (fun q : Nat => s.heap.size ≤ q) ((cbS ad cI cJ bb ++ [(o, .inl (cJ, 1, .inr (.inl ov)))]) ++ mdS ad2 cI cJ cd bb) → va_S (fun q : Nat => s.heap.size ≤ q) s.heap H locs → lv_has ls 8 [(0, .ref b), (1, .ref (ad 0)), (2, .ref (ad2 0)), (3, .ref o), (4, .int (nI (5 * t)))] → W p l e room_1 s m #[Value.ref b] below meth c H locs (23 + t) (323 + 6 * t) (lw_Z below #[Value.ref b] s) (F0 m 23 ls []) := by
  obtain ⟨hx, hb, hr, hml, hown0, hts0, hX, hbl, hlocks, hgv⟩ := id C0
  have hts : ∀ w ∈ wAll, w.before #[Value.ref b] s = true := fun w h => hts0 w (wAll_tbl h)
  have hown : s.vm.findClass "ClearingBooksLaw" = some m.cls := hown0
  have hA : ∀ q : Nat, s.heap.size ≤ q → (fun q : Nat => s.heap.size ≤ q) q := fun _ h => h
  have hbA : ¬ (fun q : Nat => s.heap.size ≤ q) b := Nat.not_le.mpr hbl
  intro k
  induction k with
  | zero =>
    intro t bb ov cd H locs ls htk hv hP hD hS hl
    refine lv_iload hx hb d_L_law_23 (lv_at hl 4 rfl) ?_
    refine lv_aload_n hx hb d_L_law_25 rfl (lv_at hl 0 rfl) ?_
    refine va_slen hx hb hX hbl hbA hS d_L_law_26 ?_
    refine lv_iconst (v := nI 5) hx hb d_L_law_27 (by decide) ?_
    refine lv_isub hx hb d_L_law_28 ?_
    refine lv_icmp_gt (tgt := 795) hx hb d_L_law_29 (by decide) (fun c1 => ?_) (fun c1 => ?_)
    · refine lv_iconst (v := 1) hx hb d_L_law_795 (by decide) ?_
      refine va_forget (fun q hq => hS.2.2 q hq) ?_
      refine W.widen (k := 1056) (n := 8569) (by omega) (by omega) ?_
      exact lw_ret hx hb hr hlocks d_L_law_796
    · exact absurd (len_no hL (by omega) (by omega)) c1
  | succ k ih0 =>
    intro t bb ov cd H locs ls htk hv hP hD hS hl
    refine lv_iload hx hb d_L_law_23 (lv_at hl 4 rfl) ?_
    refine lv_aload_n hx hb d_L_law_25 rfl (lv_at hl 0 rfl) ?_
    refine va_slen hx hb hX hbl hbA hS d_L_law_26 ?_
    refine lv_iconst (v := nI 5) hx hb d_L_law_27 (by decide) ?_
    refine lv_isub hx hb d_L_law_28 ?_
    refine lv_icmp_gt (tgt := 795) hx hb d_L_law_29 (by decide) (fun c1 => ?_) (fun c1 => ?_)
    · refine lv_iconst (v := 1) hx hb d_L_law_795 (by decide) ?_
      refine va_forget (fun q hq => hS.2.2 q hq) ?_
      refine W.widen (k := 1056) (n := 8569) (by omega) (by omega) ?_
      exact lw_ret hx hb hr hlocks d_L_law_796
    · have hi : 5 * t + 5 ≤ L := len_ok hL (by omega) c1
      have ih : ∀ (bb : ST) (ov : Nat → Int64) (cd : Nat) (H : Heap) (locs : List Loc) (ls : Array Slot), invS (t + 1) bb → va_P (dC, dI) vwCl ((cbS ad cI cJ bb ++ [(o, .inl (cJ, 1, .inr (.inl ov)))]) ++ mdS ad2 cI cJ cd bb) H → va_D (fun q : Nat => s.heap.size ≤ q) ((cbS ad cI cJ bb ++ [(o, .inl (cJ, 1, .inr (.inl ov)))]) ++ mdS ad2 cI cJ cd bb) → va_S (fun q : Nat => s.heap.size ≤ q) s.heap H locs → lv_has ls 8 [(0, .ref b), (1, .ref (ad 0)), (2, .ref (ad2 0)), (3, .ref o), (4, .int (nI (5 * t + 5)))] → W p l e room_1 s m #[Value.ref b] below meth c H locs (23 + (t + 1)) (323 + 6 * (t + 1)) (lw_Z below #[Value.ref b] s) (F0 m 23 ls []) := fun bb ov cd H locs ls a1 a2 a3 a4 a5 => ih0 (t + 1) bb ov cd H locs ls (by omega) a1 a2 a3 a4 a5
      refine lv_aload_n hx hb d_L_law_32 rfl (lv_at hl 0 rfl) ?_
      refine lv_iload hx hb d_L_law_33 (lv_at hl 4 rfl) ?_
      refine xa_sld hx hb hX hbl hbA hS (j := 5 * t) (by omega) (by omega) d_L_law_35 ?_
      refine lv_bipush (v := nI 15) hx hb d_L_law_36 (by decide) ?_
      refine lv_iand hx hb d_L_law_38 ?_
      refine lv_topi (fun v9 e9 => ?_)
      obtain ⟨j, hj, ej⟩ := pk_andE (xs (5 * t)) (m := nI 15) 4 (by decide)
      obtain rfl : v9 = nI j := e9.trans ej
      match j, hj with
      | 0, _ =>
        refine lv_tableIn (tgt := 96) (off := 57) hx hb d_L_law_39 (by decide) (by decide) rfl (by decide) ?_
        exact op_acquirer hl0 hL C0 hX0 hK hv (by omega) hi hP hD hS hl ih
      | 1, _ =>
        refine lv_tableIn (tgt := 152) (off := 113) hx hb d_L_law_39 (by decide) (by decide) rfl (by decide) ?_
        exact op_issuer hl0 hL C0 hX0 hK hv (by omega) hi hP hD hS hl ih
      | 2, _ =>
        refine lv_tableIn (tgt := 208) (off := 169) hx hb d_L_law_39 (by decide) (by decide) rfl (by decide) ?_
        exact op_clear hl0 hL C0 hX0 hK hv (by omega) hi hP hD hS hl ih
      | 3, _ =>
        refine lv_tableIn (tgt := 319) (off := 280) hx hb d_L_law_39 (by decide) (by decide) rfl (by decide) ?_
        exact op_back hl0 hL C0 hX0 hK hv (by omega) hi hP hD hS hl ih
      | 4, _ =>
        refine lv_tableIn (tgt := 430) (off := 391) hx hb d_L_law_39 (by decide) (by decide) rfl (by decide) ?_
        exact op_reconcile hl0 hL C0 hX0 hK hv (by omega) hi hP hD hS hl ih
      | 5, _ =>
        refine lv_tableIn (tgt := 549) (off := 510) hx hb d_L_law_39 (by decide) (by decide) rfl (by decide) ?_
        exact op_batch hl0 hL C0 hX0 hK hv (by omega) hi hP hD hS hl ih
      | 6, _ =>
        refine lv_tableIn (tgt := 616) (off := 577) hx hb d_L_law_39 (by decide) (by decide) rfl (by decide) ?_
        exact op_settle hl0 hL C0 hX0 hK hv (by omega) hi hP hD hS hl ih
      | 7, _ =>
        refine lv_tableIn (tgt := 629) (off := 590) hx hb d_L_law_39 (by decide) (by decide) rfl (by decide) ?_
        exact op_transfer hl0 hL C0 hX0 hK hv (by omega) hi hP hD hS hl ih
      | 8, _ =>
        refine lv_tableIn (tgt := 696) (off := 657) hx hb d_L_law_39 (by decide) (by decide) rfl (by decide) ?_
        exact op_party hl0 hL C0 hX0 hK hv (by omega) hi hP hD hS hl ih
      | 9, _ =>
        refine lv_tableIn (tgt := 763) (off := 724) hx hb d_L_law_39 (by decide) (by decide) rfl (by decide) ?_
        exact op_parties hl0 hL C0 hX0 hK hv (by omega) hi hP hD hS hl ih
      | 10, _ =>
        refine lv_tableIn (tgt := 776) (off := 737) hx hb d_L_law_39 (by decide) (by decide) rfl (by decide) ?_
        exact op_audit hl0 hL C0 hX0 hK hv (by omega) hi hP hD hS hl ih
      | 11, _ =>
        refine lv_tableOut (tgt := 789) hx hb d_L_law_39 (by decide) (by decide) ?_
        exact op_none hl0 hL C0 hX0 hK hv (by omega) hi hP hD hS hl ih
      | 12, _ =>
        refine lv_tableOut (tgt := 789) hx hb d_L_law_39 (by decide) (by decide) ?_
        exact op_none hl0 hL C0 hX0 hK hv (by omega) hi hP hD hS hl ih
      | 13, _ =>
        refine lv_tableOut (tgt := 789) hx hb d_L_law_39 (by decide) (by decide) ?_
        exact op_none hl0 hL C0 hX0 hK hv (by omega) hi hP hD hS hl ih
      | 14, _ =>
        refine lv_tableOut (tgt := 789) hx hb d_L_law_39 (by decide) (by decide) ?_
        exact op_none hl0 hL C0 hX0 hK hv (by omega) hi hP hD hS hl ih
      | 15, _ =>
        refine lv_tableOut (tgt := 789) hx hb d_L_law_39 (by decide) (by decide) ?_
        exact op_none hl0 hL C0 hX0 hK hv (by omega) hi hP hD hS hl ih
      | j + 16, h => exact absurd h (by omega)
