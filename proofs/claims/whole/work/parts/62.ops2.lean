set_option maxHeartbeats 4000000 in
set_option maxRecDepth 100000 in
theorem op_reconcile {p : Program} {l : Launch} {e : Env} {s : State} {m : MethodId} {below : List Frame} {meth : Method} {c : Code} {dC : Nat → ClassId} {dI : Nat → Nat → Nat} {b L : Nat} {xs : Nat → Int32} (hl0 : l.stackTraces = false) (hL : L ≤ 2560) (C0 : lw_At p s m meth c b L xs) (hX0 : xc_ok "ClearingBooks" cb_ks s) {cI cJ : ClassId} (hK : va_K (dC, dI) vwCl [(cI, .int), (cJ, .long)] s) {ad ad2 : Nat → Nat} {o : Nat} {t : Nat} {bb : ST} {ov : Nat → Int64} {cd : Nat} (hv : invS t bb) (ht : t < 512) (hi : 5 * t + 5 ≤ L) {H : Heap} {locs : List Loc} (hP : va_P (dC, dI) vwCl ((cbS ad cI cJ bb ++ [(o, .inl (cJ, 1, .inr (.inl ov)))]) ++ mdS ad2 cI cJ cd bb) H) (hD : va_D (fun q : Nat => s.heap.size ≤ q) ((cbS ad cI cJ bb ++ [(o, .inl (cJ, 1, .inr (.inl ov)))]) ++ mdS ad2 cI cJ cd bb)) (hS : va_S (fun q : Nat => s.heap.size ≤ q) s.heap H locs) {ls : Array Slot} (hl : lv_has ls 8 [(0, .ref b), (1, .ref (ad 0)), (2, .ref (ad2 0)), (3, .ref o), (4, .int (nI (5 * t)))]) (ih : ∀ (bb : ST) (ov : Nat → Int64) (cd : Nat) (H : Heap) (locs : List Loc) (ls : Array Slot), invS (t + 1) bb → va_P (dC, dI) vwCl ((cbS ad cI cJ bb ++ [(o, .inl (cJ, 1, .inr (.inl ov)))]) ++ mdS ad2 cI cJ cd bb) H → va_D (fun q : Nat => s.heap.size ≤ q) ((cbS ad cI cJ bb ++ [(o, .inl (cJ, 1, .inr (.inl ov)))]) ++ mdS ad2 cI cJ cd bb) → va_S (fun q : Nat => s.heap.size ≤ q) s.heap H locs → lv_has ls 8 [(0, .ref b), (1, .ref (ad 0)), (2, .ref (ad2 0)), (3, .ref o), (4, .int (nI (5 * t + 5)))] → W p l e room_1 s m #[Value.ref b] below meth c H locs (23 + (t + 1)) (323 + 6 * (t + 1)) (lw_Z below #[Value.ref b] s) (F0 m 23 ls [])) : W p l e room_1 s m #[Value.ref b] below meth c H locs (23 + t) (323 + 6 * t) (lw_Z below #[Value.ref b] s) (F0 m 430 ls []) := by
  obtain ⟨hx, hb, hr, hml, hown0, hts0, hX, hbl, hlocks, hgv⟩ := id C0
  have hts : ∀ w ∈ wAll, w.before #[Value.ref b] s = true := fun w h => hts0 w (wAll_tbl h)
  have hown : s.vm.findClass "ClearingBooksLaw" = some m.cls := hown0
  have hA : ∀ q : Nat, s.heap.size ≤ q → (fun q : Nat => s.heap.size ≤ q) q := fun _ h => h
  have hbA : ¬ (fun q : Nat => s.heap.size ≤ q) b := Nat.not_le.mpr hbl
  obtain ⟨k, z1, ov1, b1, hk, hw, hm, heq, hv1⟩ := s_reconcile l hl0 dC dI ad ad2 cI cJ o ov cd t bb hv ht (xs (5 * t + 1)) (xs (5 * t + 2)) (((xs (5 * t + 3)).toInt64 <<< ((nI 32).toInt64 &&& 63)) ||| ((xs (5 * t + 4)).toInt64 &&& 4294967295))
  refine lv_aload_n hx hb d_L_law_430 rfl (lv_at hl 1 rfl) ?_
  refine lv_aload_n hx hb d_L_law_431 rfl (lv_at hl 0 rfl) ?_
  refine lv_iload hx hb d_L_law_432 (lv_at hl 4 rfl) ?_
  refine lv_iconst (v := nI 1) hx hb d_L_law_434 (by decide) ?_
  refine t_iadd hx hb d_L_law_435 (v := nI ((5 * t) + 1)) (nI_add (5 * t) 1) ?_
  refine xa_sld hx hb hX hbl hbA hS (j := (5 * t) + 1) (by omega) (by omega) d_L_law_436 ?_
  refine lv_aload_n hx hb d_L_law_437 rfl (lv_at hl 0 rfl) ?_
  refine lv_iload hx hb d_L_law_438 (lv_at hl 4 rfl) ?_
  refine lv_iconst (v := nI 2) hx hb d_L_law_440 (by decide) ?_
  refine t_iadd hx hb d_L_law_441 (v := nI ((5 * t) + 2)) (nI_add (5 * t) 2) ?_
  refine xa_sld hx hb hX hbl hbA hS (j := (5 * t) + 2) (by omega) (by omega) d_L_law_442 ?_
  refine lv_aload_n hx hb d_L_law_443 rfl (lv_at hl 0 rfl) ?_
  refine lv_iload hx hb d_L_law_444 (lv_at hl 4 rfl) ?_
  refine lv_iconst (v := nI 3) hx hb d_L_law_446 (by decide) ?_
  refine t_iadd hx hb d_L_law_447 (v := nI ((5 * t) + 3)) (nI_add (5 * t) 3) ?_
  refine xa_sld hx hb hX hbl hbA hS (j := (5 * t) + 3) (by omega) (by omega) d_L_law_448 ?_
  refine lv_i2l (v := (xs ((5 * t) + 3)).toInt64) hx hb d_L_law_449 rfl ?_
  refine lv_bipush (v := nI 32) hx hb d_L_law_450 (by decide) ?_
  refine lv_lshl (v := ((xs ((5 * t) + 3)).toInt64) <<< ((nI 32).toInt64 &&& 63)) hx hb d_L_law_452 rfl ?_
  refine lv_aload_n hx hb d_L_law_453 rfl (lv_at hl 0 rfl) ?_
  refine lv_iload hx hb d_L_law_454 (lv_at hl 4 rfl) ?_
  refine lv_iconst (v := nI 4) hx hb d_L_law_456 (by decide) ?_
  refine t_iadd hx hb d_L_law_457 (v := nI ((5 * t) + 4)) (nI_add (5 * t) 4) ?_
  refine xa_sld hx hb hX hbl hbA hS (j := (5 * t) + 4) (by omega) (by omega) d_L_law_458 ?_
  refine lv_i2l (v := (xs ((5 * t) + 4)).toInt64) hx hb d_L_law_459 rfl ?_
  refine lv_ldc2 (v := 4294967295) hx hb hown (hts _ kw_376) d_L_law_460 ?_
  refine lv_land hx hb d_L_law_463 ?_
  refine lv_lor hx hb d_L_law_464 ?_
  refine lv_aload_n hx hb d_L_law_465 rfl (lv_at hl 3 rfl) ?_
  refine ml_calli (xw_runS (n := 5) (As := [.ref (ad 0), .int (xs ((5 * t) + 1)), .int (xs ((5 * t) + 2)), .long ((((xs ((5 * t) + 3)).toInt64) <<< ((nI 32).toInt64 &&& 63)) ||| (((xs ((5 * t) + 4)).toInt64) &&& 4294967295)), .ref o]) (rest := []) ⟨hx, hb, hml, hown, hts⟩ (hw _) kw_232 kw_230 kw_231 kw_0 rfl rfl (by decide +kernel) ⟨Nat.le_of_ble_eq_true rfl, Nat.le_of_ble_eq_true rfl⟩ (mx_preS hK (P_l hP) (D_l hD) (fun U hU hW => xc_moved hX0 hW (fun q hq => by rw [hU]; exact hS.2.1 q hq (Nat.not_le.mpr hq)))) rfl rfl hl.1 rfl (lv_room (Nat.le_of_ble_eq_true rfl)) d_L_law_466 ⟨by show 23 + t + 1 ≤ 1056; omega, by show 323 + 6 * t + 6 ≤ 8569; omega⟩) hP hD hS hA (fun r9 H locs hq hP hD hS => ?_)
  rw [hq]
  have hP : va_P (dC, dI) vwCl ((cbS ad cI cJ b1 ++ [(o, .inl (cJ, 1, .inr (.inl ov1)))]) ++ mdS ad2 cI cJ cd bb) H := hP
  have hD : va_D (fun q : Nat => s.heap.size ≤ q) ((cbS ad cI cJ b1 ++ [(o, .inl (cJ, 1, .inr (.inl ov1)))]) ++ mdS ad2 cI cJ cd bb) := hD
  refine lv_istore (lv' := [(5, .int (nI k)), (0, .ref b), (1, .ref (ad 0)), (2, .ref (ad2 0)), (3, .ref o), (4, .int (nI (5 * t)))]) hx hb d_L_law_469 hl (by decide) rfl (fun ls hl => ?_)
  refine lv_aload_n hx hb d_L_law_471 rfl (lv_at hl 3 rfl) ?_
  refine lv_aload_n hx hb d_L_law_472 rfl (lv_at hl 1 rfl) ?_
  refine lv_iload hx hb d_L_law_473 (lv_at hl 5 rfl) ?_
  refine lv_iconst (v := nI 1) hx hb d_L_law_475 (by decide) ?_
  refine t_iadd hx hb d_L_law_476 (v := nI ((5 * t) + 1)) (nI_add (5 * t) 1) ?_
  refine xa_sld hx hb hX hbl hbA hS (j := (5 * t) + 1) (by omega) (by omega) d_L_law_477 ?_
  refine lv_aload_n hx hb d_L_law_478 rfl (lv_at hl 1 rfl) ?_
  refine lv_iload hx hb d_L_law_479 (lv_at hl 5 rfl) ?_
  refine lv_iconst (v := nI 2) hx hb d_L_law_481 (by decide) ?_
  refine t_iadd hx hb d_L_law_482 (v := nI ((5 * t) + 2)) (nI_add (5 * t) 2) ?_
  refine xa_sld hx hb hX hbl hbA hS (j := (5 * t) + 2) (by omega) (by omega) d_L_law_483 ?_
  refine lv_aload_n hx hb d_L_law_484 rfl (lv_at hl 1 rfl) ?_
  refine lv_iload hx hb d_L_law_485 (lv_at hl 5 rfl) ?_
  refine lv_iconst (v := nI 3) hx hb d_L_law_487 (by decide) ?_
  refine t_iadd hx hb d_L_law_488 (v := nI ((5 * t) + 3)) (nI_add (5 * t) 3) ?_
  refine xa_sld hx hb hX hbl hbA hS (j := (5 * t) + 3) (by omega) (by omega) d_L_law_489 ?_
  refine lv_i2l (v := (xs ((5 * t) + 3)).toInt64) hx hb d_L_law_490 rfl ?_
  refine lv_bipush (v := nI 32) hx hb d_L_law_491 (by decide) ?_
  refine lv_lshl (v := ((xs ((5 * t) + 3)).toInt64) <<< ((nI 32).toInt64 &&& 63)) hx hb d_L_law_493 rfl ?_
  refine lv_aload_n hx hb d_L_law_494 rfl (lv_at hl 1 rfl) ?_
  refine lv_iload hx hb d_L_law_495 (lv_at hl 5 rfl) ?_
  refine lv_iconst (v := nI 4) hx hb d_L_law_497 (by decide) ?_
  refine t_iadd hx hb d_L_law_498 (v := nI ((5 * t) + 4)) (nI_add (5 * t) 4) ?_
  refine xa_sld hx hb hX hbl hbA hS (j := (5 * t) + 4) (by omega) (by omega) d_L_law_499 ?_
  refine lv_i2l (v := (xs ((5 * t) + 4)).toInt64) hx hb d_L_law_500 rfl ?_
  refine lv_ldc2 (v := 4294967295) hx hb hown (hts _ kw_376) d_L_law_501 ?_
  refine lv_land hx hb d_L_law_504 ?_
  refine lv_lor hx hb d_L_law_505 ?_
  refine mr_calli (va_runV (As := [.int (xs ((5 * t) + 1)), .int (xs ((5 * t) + 2)), .long ((((xs ((5 * t) + 3)).toInt64) <<< ((nI 32).toInt64 &&& 63)) ||| (((xs ((5 * t) + 4)).toInt64) &&& 4294967295))]) (rest := []) ⟨hx, hb, hml, hown, hts⟩ (hm _) (cwV 3 hts (wAll_v kw_348 kw_349 kw_350 kw_2 kw_351) rfl rfl rfl (by decide +kernel) ⟨Nat.le_of_ble_eq_true rfl, Nat.le_of_ble_eq_true rfl⟩) (mu_preV hK (P_r hP) (D_r hD) (ci := 1) (q0 := 0) rfl rfl) rfl rfl hl.1 rfl (lv_room (Nat.le_of_ble_eq_true rfl)) d_L_law_506 ⟨by show 23 + t + 1 + 0 ≤ 1056; omega, by show 323 + 6 * t + 6 + 0 ≤ 8569; omega⟩) hP hD hS hA (fun r9 H locs hq hP hD hS => ?_)
  rw [hq]
  have hP : va_P (dC, dI) vwCl ((cbS ad cI cJ b1 ++ [(o, .inl (cJ, 1, .inr (.inl ov1)))]) ++ mdS ad2 cI cJ k b1) H := hP
  have hD : va_D (fun q : Nat => s.heap.size ≤ q) ((cbS ad cI cJ b1 ++ [(o, .inl (cJ, 1, .inr (.inl ov1)))]) ++ mdS ad2 cI cJ k b1) := hD
  refine lv_istore (lv' := [(6, .int z1), (5, .int (nI k)), (0, .ref b), (1, .ref (ad 0)), (2, .ref (ad2 0)), (3, .ref o), (4, .int (nI (5 * t)))]) hx hb d_L_law_509 hl (by decide) rfl (fun ls hl => ?_)
  refine lv_aload_n hx hb d_L_law_511 rfl (lv_at hl 4 rfl) ?_
  refine ro_call (va_runV (As := []) (rest := []) ⟨hx, hb, hml, hown, hts⟩ (m_thrown l dC dI ad2 cI cJ k b1.1 b1.2.1 b1.2.2.1 b1.2.2.2.1 b1.2.2.2.2.1 b1.2.2.2.2.2.1 b1.2.2.2.2.2.2.1 b1.2.2.2.2.2.2.2.1 b1.2.2.2.2.2.2.2.2.1 b1.2.2.2.2.2.2.2.2.2.1 b1.2.2.2.2.2.2.2.2.2.2.1 b1.2.2.2.2.2.2.2.2.2.2.2) (cwV 0 hts (wAll_v kw_313 kw_314 kw_315 kw_2 kw_316) rfl rfl rfl (by decide +kernel) ⟨Nat.le_of_ble_eq_true rfl, Nat.le_of_ble_eq_true rfl⟩) (ro_preV bl_tt hK (P_r hP) (ci := 1) (q0 := 0) rfl rfl (fun _ _ _ => trivial)) rfl rfl hl.1 rfl (lv_room (Nat.le_of_ble_eq_true rfl)) d_L_law_512 ⟨by show 23 + t + 1 + 0 ≤ 1056; omega, by show 323 + 6 * t + 6 + 0 ≤ 8569; omega⟩) ?_
  refine W.eq (g2 := F0 m 515 ls [.int (nI k)]) rfl ?_
  refine lv_iload hx hb d_L_law_515 (lv_at hl 1 rfl) ?_
  refine lv_icmp_eq (tgt := 522) hx hb d_L_law_517 (by decide) (fun c1 => ?_) (fun c1 => ?_)
  · replace c1 := (nI_eq (by omega) (by omega)).mp c1
    refine lv_iload hx hb d_L_law_522 (lv_at hl 1 rfl) ?_
    refine lv_if_ne (tgt := 546) hx hb d_L_law_524 (by decide) (fun c2 => ?_) (fun c2 => ?_)
    · refine lv_goto (tgt := 789) hx hb d_L_law_546 (by decide) ?_
      refine lv_iinc (v := nI (5 * t + 5)) (lv' := [(4, .int (nI (5 * t + 5))), (6, .int z1), (5, .int (nI k)), (0, .ref b), (1, .ref (ad 0)), (2, .ref (ad2 0)), (3, .ref o)]) hx hb d_L_law_789 hl (k := 6) rfl (nI_add (5 * t) 5) (by decide) rfl (fun ls hl => ?_)
      refine lv_goto (tgt := 23) hx hb d_L_law_792 (by decide) ?_
      refine W.widen (k := 23 + (t + 1)) (n := 323 + 6 * (t + 1)) (by omega) (by omega) ?_
      exact ih b1 ov1 k H locs ls hv1 hP hD hS (lv_sub hl [3, 4, 5, 6, 0] rfl)
    · have e5 := heq (k_z hk c2)
      refine lv_aload_n hx hb d_L_law_527 rfl (lv_at hl 5 rfl) ?_
      refine lv_iconst (v := nI 0) hx hb d_L_law_528 (by decide) ?_
      refine xa_laload (f := ov1) hx hb hK hP 11 1 rfl rfl (j := 0) (by omega) (by decide) d_L_law_529 ?_
      refine lv_iload hx hb d_L_law_530 (lv_at hl 0 rfl) ?_
      refine lv_if_eq (tgt := 539) hx hb d_L_law_532 (by decide) (fun c3 => ?_) (fun c3 => ?_)
      · refine lv_lconst (v := 0) hx hb d_L_law_539 (by decide) ?_
        refine W.lcmp hx hb d_L_law_540 ?_
        refine lv_if_eq (tgt := 546) hx hb d_L_law_541 (by decide) (fun c4 => ?_) (fun c4 => ?_)
        · replace c4 := (lg_cmp_eq _ _).mp c4
          refine lv_goto (tgt := 789) hx hb d_L_law_546 (by decide) ?_
          refine lv_iinc (v := nI (5 * t + 5)) (lv' := [(4, .int (nI (5 * t + 5))), (6, .int z1), (5, .int (nI k)), (0, .ref b), (1, .ref (ad 0)), (2, .ref (ad2 0)), (3, .ref o)]) hx hb d_L_law_789 hl (k := 6) rfl (nI_add (5 * t) 5) (by decide) rfl (fun ls hl => ?_)
          refine lv_goto (tgt := 23) hx hb d_L_law_792 (by decide) ?_
          refine W.widen (k := 23 + (t + 1)) (n := 323 + 6 * (t + 1)) (by omega) (by omega) ?_
          exact ih b1 ov1 k H locs ls hv1 hP hD hS (lv_sub hl [3, 4, 5, 6, 0] rfl)
        · replace c4 := mt (lg_cmp_eq _ _).mpr c4
          exact absurd (e5.trans (by first | rw [if_pos (by assumption)] | rw [if_neg (by assumption)])) c4
      · refine lv_lconst (v := 1) hx hb d_L_law_535 (by decide) ?_
        refine lv_goto (tgt := 540) hx hb d_L_law_536 (by decide) ?_
        refine W.lcmp hx hb d_L_law_540 ?_
        refine lv_if_eq (tgt := 546) hx hb d_L_law_541 (by decide) (fun c5 => ?_) (fun c5 => ?_)
        · replace c5 := (lg_cmp_eq _ _).mp c5
          refine lv_goto (tgt := 789) hx hb d_L_law_546 (by decide) ?_
          refine lv_iinc (v := nI (5 * t + 5)) (lv' := [(4, .int (nI (5 * t + 5))), (6, .int z1), (5, .int (nI k)), (0, .ref b), (1, .ref (ad 0)), (2, .ref (ad2 0)), (3, .ref o)]) hx hb d_L_law_789 hl (k := 6) rfl (nI_add (5 * t) 5) (by decide) rfl (fun ls hl => ?_)
          refine lv_goto (tgt := 23) hx hb d_L_law_792 (by decide) ?_
          refine W.widen (k := 23 + (t + 1)) (n := 323 + 6 * (t + 1)) (by omega) (by omega) ?_
          exact ih b1 ov1 k H locs ls hv1 hP hD hS (lv_sub hl [3, 4, 5, 6, 0] rfl)
        · replace c5 := mt (lg_cmp_eq _ _).mpr c5
          exact absurd (e5.trans (by first | rw [if_pos (by assumption)] | rw [if_neg (by assumption)])) c5
  · replace c1 := mt (nI_eq (by omega) (by omega)).mpr c1
    exact absurd rfl c1
set_option maxHeartbeats 4000000 in
set_option maxRecDepth 100000 in
theorem op_batch {p : Program} {l : Launch} {e : Env} {s : State} {m : MethodId} {below : List Frame} {meth : Method} {c : Code} {dC : Nat → ClassId} {dI : Nat → Nat → Nat} {b L : Nat} {xs : Nat → Int32} (hl0 : l.stackTraces = false) (hL : L ≤ 2560) (C0 : lw_At p s m meth c b L xs) (hX0 : xc_ok "ClearingBooks" cb_ks s) {cI cJ : ClassId} (hK : va_K (dC, dI) vwCl [(cI, .int), (cJ, .long)] s) {ad ad2 : Nat → Nat} {o : Nat} {t : Nat} {bb : ST} {ov : Nat → Int64} {cd : Nat} (hv : invS t bb) (ht : t < 512) (hi : 5 * t + 5 ≤ L) {H : Heap} {locs : List Loc} (hP : va_P (dC, dI) vwCl ((cbS ad cI cJ bb ++ [(o, .inl (cJ, 1, .inr (.inl ov)))]) ++ mdS ad2 cI cJ cd bb) H) (hD : va_D (fun q : Nat => s.heap.size ≤ q) ((cbS ad cI cJ bb ++ [(o, .inl (cJ, 1, .inr (.inl ov)))]) ++ mdS ad2 cI cJ cd bb)) (hS : va_S (fun q : Nat => s.heap.size ≤ q) s.heap H locs) {ls : Array Slot} (hl : lv_has ls 8 [(0, .ref b), (1, .ref (ad 0)), (2, .ref (ad2 0)), (3, .ref o), (4, .int (nI (5 * t)))]) (ih : ∀ (bb : ST) (ov : Nat → Int64) (cd : Nat) (H : Heap) (locs : List Loc) (ls : Array Slot), invS (t + 1) bb → va_P (dC, dI) vwCl ((cbS ad cI cJ bb ++ [(o, .inl (cJ, 1, .inr (.inl ov)))]) ++ mdS ad2 cI cJ cd bb) H → va_D (fun q : Nat => s.heap.size ≤ q) ((cbS ad cI cJ bb ++ [(o, .inl (cJ, 1, .inr (.inl ov)))]) ++ mdS ad2 cI cJ cd bb) → va_S (fun q : Nat => s.heap.size ≤ q) s.heap H locs → lv_has ls 8 [(0, .ref b), (1, .ref (ad 0)), (2, .ref (ad2 0)), (3, .ref o), (4, .int (nI (5 * t + 5)))] → W p l e room_1 s m #[Value.ref b] below meth c H locs (23 + (t + 1)) (323 + 6 * (t + 1)) (lw_Z below #[Value.ref b] s) (F0 m 23 ls [])) : W p l e room_1 s m #[Value.ref b] below meth c H locs (23 + t) (323 + 6 * t) (lw_Z below #[Value.ref b] s) (F0 m 549 ls []) := by
  obtain ⟨hx, hb, hr, hml, hown0, hts0, hX, hbl, hlocks, hgv⟩ := id C0
  have hts : ∀ w ∈ wAll, w.before #[Value.ref b] s = true := fun w h => hts0 w (wAll_tbl h)
  have hown : s.vm.findClass "ClearingBooksLaw" = some m.cls := hown0
  have hA : ∀ q : Nat, s.heap.size ≤ q → (fun q : Nat => s.heap.size ≤ q) q := fun _ h => h
  have hbA : ¬ (fun q : Nat => s.heap.size ≤ q) b := Nat.not_le.mpr hbl
  obtain ⟨k, z1, ov1, b1, hk, hw, hm, heq, hv1⟩ := s_batch l hl0 dC dI ad ad2 cI cJ o ov cd t bb hv ht (xs (5 * t + 1)) (xs (5 * t + 2))
  refine lv_aload_n hx hb d_L_law_549 rfl (lv_at hl 1 rfl) ?_
  refine lv_aload_n hx hb d_L_law_550 rfl (lv_at hl 0 rfl) ?_
  refine lv_iload hx hb d_L_law_551 (lv_at hl 4 rfl) ?_
  refine lv_iconst (v := nI 1) hx hb d_L_law_553 (by decide) ?_
  refine t_iadd hx hb d_L_law_554 (v := nI ((5 * t) + 1)) (nI_add (5 * t) 1) ?_
  refine xa_sld hx hb hX hbl hbA hS (j := (5 * t) + 1) (by omega) (by omega) d_L_law_555 ?_
  refine lv_aload_n hx hb d_L_law_556 rfl (lv_at hl 0 rfl) ?_
  refine lv_iload hx hb d_L_law_557 (lv_at hl 4 rfl) ?_
  refine lv_iconst (v := nI 2) hx hb d_L_law_559 (by decide) ?_
  refine t_iadd hx hb d_L_law_560 (v := nI ((5 * t) + 2)) (nI_add (5 * t) 2) ?_
  refine xa_sld hx hb hX hbl hbA hS (j := (5 * t) + 2) (by omega) (by omega) d_L_law_561 ?_
  refine lv_aload_n hx hb d_L_law_562 rfl (lv_at hl 3 rfl) ?_
  refine ml_calli (xw_runS (n := 4) (As := [.ref (ad 0), .int (xs ((5 * t) + 1)), .int (xs ((5 * t) + 2)), .ref o]) (rest := []) ⟨hx, hb, hml, hown, hts⟩ (hw _) kw_239 kw_237 kw_238 kw_0 rfl rfl (by decide +kernel) ⟨Nat.le_of_ble_eq_true rfl, Nat.le_of_ble_eq_true rfl⟩ (mx_preS hK (P_l hP) (D_l hD) (fun U hU hW => xc_moved hX0 hW (fun q hq => by rw [hU]; exact hS.2.1 q hq (Nat.not_le.mpr hq)))) rfl rfl hl.1 rfl (lv_room (Nat.le_of_ble_eq_true rfl)) d_L_law_563 ⟨by show 23 + t + 1 ≤ 1056; omega, by show 323 + 6 * t + 6 ≤ 8569; omega⟩) hP hD hS hA (fun r9 H locs hq hP hD hS => ?_)
  rw [hq]
  have hP : va_P (dC, dI) vwCl ((cbS ad cI cJ b1 ++ [(o, .inl (cJ, 1, .inr (.inl ov1)))]) ++ mdS ad2 cI cJ cd bb) H := hP
  have hD : va_D (fun q : Nat => s.heap.size ≤ q) ((cbS ad cI cJ b1 ++ [(o, .inl (cJ, 1, .inr (.inl ov1)))]) ++ mdS ad2 cI cJ cd bb) := hD
  refine lv_istore (lv' := [(5, .int (nI k)), (0, .ref b), (1, .ref (ad 0)), (2, .ref (ad2 0)), (3, .ref o), (4, .int (nI (5 * t)))]) hx hb d_L_law_566 hl (by decide) rfl (fun ls hl => ?_)
  refine lv_aload_n hx hb d_L_law_568 rfl (lv_at hl 3 rfl) ?_
  refine lv_aload_n hx hb d_L_law_569 rfl (lv_at hl 1 rfl) ?_
  refine lv_iload hx hb d_L_law_570 (lv_at hl 5 rfl) ?_
  refine lv_iconst (v := nI 1) hx hb d_L_law_572 (by decide) ?_
  refine t_iadd hx hb d_L_law_573 (v := nI ((5 * t) + 1)) (nI_add (5 * t) 1) ?_
  refine xa_sld hx hb hX hbl hbA hS (j := (5 * t) + 1) (by omega) (by omega) d_L_law_574 ?_
  refine lv_aload_n hx hb d_L_law_575 rfl (lv_at hl 1 rfl) ?_
  refine lv_iload hx hb d_L_law_576 (lv_at hl 5 rfl) ?_
  refine lv_iconst (v := nI 2) hx hb d_L_law_578 (by decide) ?_
  refine t_iadd hx hb d_L_law_579 (v := nI ((5 * t) + 2)) (nI_add (5 * t) 2) ?_
  refine xa_sld hx hb hX hbl hbA hS (j := (5 * t) + 2) (by omega) (by omega) d_L_law_580 ?_
  refine mr_calll (va_runV (As := [.int (xs ((5 * t) + 1)), .int (xs ((5 * t) + 2))]) (rest := []) ⟨hx, hb, hml, hown, hts⟩ (hm _) (cwV 2 hts (wAll_v kw_352 kw_353 kw_354 kw_2 kw_355) rfl rfl rfl (by decide +kernel) ⟨Nat.le_of_ble_eq_true rfl, Nat.le_of_ble_eq_true rfl⟩) (mu_preV hK (P_r hP) (D_r hD) (ci := 1) (q0 := 0) rfl rfl) rfl rfl hl.1 rfl (lv_room (Nat.le_of_ble_eq_true rfl)) d_L_law_581 ⟨by show 23 + t + 1 + 0 ≤ 1056; omega, by show 323 + 6 * t + 6 + 0 ≤ 8569; omega⟩) hP hD hS hA (fun r9 H locs hq hP hD hS => ?_)
  rw [hq]
  have hP : va_P (dC, dI) vwCl ((cbS ad cI cJ b1 ++ [(o, .inl (cJ, 1, .inr (.inl ov1)))]) ++ mdS ad2 cI cJ k b1) H := hP
  have hD : va_D (fun q : Nat => s.heap.size ≤ q) ((cbS ad cI cJ b1 ++ [(o, .inl (cJ, 1, .inr (.inl ov1)))]) ++ mdS ad2 cI cJ k b1) := hD
  refine lv_lstore (lv' := [(6, .long z1), (5, .int (nI k)), (0, .ref b), (1, .ref (ad 0)), (2, .ref (ad2 0)), (3, .ref o), (4, .int (nI (5 * t)))]) hx hb d_L_law_584 hl (by decide) rfl (fun ls hl => ?_)
  refine lv_aload_n hx hb d_L_law_586 rfl (lv_at hl 4 rfl) ?_
  refine ro_call (va_runV (As := []) (rest := []) ⟨hx, hb, hml, hown, hts⟩ (m_thrown l dC dI ad2 cI cJ k b1.1 b1.2.1 b1.2.2.1 b1.2.2.2.1 b1.2.2.2.2.1 b1.2.2.2.2.2.1 b1.2.2.2.2.2.2.1 b1.2.2.2.2.2.2.2.1 b1.2.2.2.2.2.2.2.2.1 b1.2.2.2.2.2.2.2.2.2.1 b1.2.2.2.2.2.2.2.2.2.2.1 b1.2.2.2.2.2.2.2.2.2.2.2) (cwV 0 hts (wAll_v kw_313 kw_314 kw_315 kw_2 kw_316) rfl rfl rfl (by decide +kernel) ⟨Nat.le_of_ble_eq_true rfl, Nat.le_of_ble_eq_true rfl⟩) (ro_preV bl_tt hK (P_r hP) (ci := 1) (q0 := 0) rfl rfl (fun _ _ _ => trivial)) rfl rfl hl.1 rfl (lv_room (Nat.le_of_ble_eq_true rfl)) d_L_law_587 ⟨by show 23 + t + 1 + 0 ≤ 1056; omega, by show 323 + 6 * t + 6 + 0 ≤ 8569; omega⟩) ?_
  refine W.eq (g2 := F0 m 590 ls [.int (nI k)]) rfl ?_
  refine lv_iload hx hb d_L_law_590 (lv_at hl 1 rfl) ?_
  refine lv_icmp_eq (tgt := 597) hx hb d_L_law_592 (by decide) (fun c1 => ?_) (fun c1 => ?_)
  · replace c1 := (nI_eq (by omega) (by omega)).mp c1
    refine lv_iload hx hb d_L_law_597 (lv_at hl 1 rfl) ?_
    refine lv_if_ne (tgt := 613) hx hb d_L_law_599 (by decide) (fun c2 => ?_) (fun c2 => ?_)
    · refine lv_goto (tgt := 789) hx hb d_L_law_613 (by decide) ?_
      refine lv_iinc (v := nI (5 * t + 5)) (lv' := [(4, .int (nI (5 * t + 5))), (6, .long z1), (5, .int (nI k)), (0, .ref b), (1, .ref (ad 0)), (2, .ref (ad2 0)), (3, .ref o)]) hx hb d_L_law_789 hl (k := 6) rfl (nI_add (5 * t) 5) (by decide) rfl (fun ls hl => ?_)
      refine lv_goto (tgt := 23) hx hb d_L_law_792 (by decide) ?_
      refine W.widen (k := 23 + (t + 1)) (n := 323 + 6 * (t + 1)) (by omega) (by omega) ?_
      exact ih b1 ov1 k H locs ls hv1 hP hD hS (lv_sub hl [3, 4, 5, 6, 0] rfl)
    · have e5 := heq (k_z hk c2)
      refine lv_aload_n hx hb d_L_law_602 rfl (lv_at hl 5 rfl) ?_
      refine lv_iconst (v := nI 0) hx hb d_L_law_603 (by decide) ?_
      refine xa_laload (f := ov1) hx hb hK hP 11 1 rfl rfl (j := 0) (by omega) (by decide) d_L_law_604 ?_
      refine lv_lload hx hb d_L_law_605 (lv_at hl 0 rfl) ?_
      refine W.lcmp hx hb d_L_law_607 ?_
      refine lv_if_eq (tgt := 613) hx hb d_L_law_608 (by decide) (fun c3 => ?_) (fun c3 => ?_)
      · replace c3 := (lg_cmp_eq _ _).mp c3
        refine lv_goto (tgt := 789) hx hb d_L_law_613 (by decide) ?_
        refine lv_iinc (v := nI (5 * t + 5)) (lv' := [(4, .int (nI (5 * t + 5))), (6, .long z1), (5, .int (nI k)), (0, .ref b), (1, .ref (ad 0)), (2, .ref (ad2 0)), (3, .ref o)]) hx hb d_L_law_789 hl (k := 6) rfl (nI_add (5 * t) 5) (by decide) rfl (fun ls hl => ?_)
        refine lv_goto (tgt := 23) hx hb d_L_law_792 (by decide) ?_
        refine W.widen (k := 23 + (t + 1)) (n := 323 + 6 * (t + 1)) (by omega) (by omega) ?_
        exact ih b1 ov1 k H locs ls hv1 hP hD hS (lv_sub hl [3, 4, 5, 6, 0] rfl)
      · replace c3 := mt (lg_cmp_eq _ _).mpr c3
        exact absurd e5 c3
  · replace c1 := mt (nI_eq (by omega) (by omega)).mpr c1
    exact absurd rfl c1
set_option maxHeartbeats 4000000 in
set_option maxRecDepth 100000 in
theorem op_transfer {p : Program} {l : Launch} {e : Env} {s : State} {m : MethodId} {below : List Frame} {meth : Method} {c : Code} {dC : Nat → ClassId} {dI : Nat → Nat → Nat} {b L : Nat} {xs : Nat → Int32} (hl0 : l.stackTraces = false) (hL : L ≤ 2560) (C0 : lw_At p s m meth c b L xs) (hX0 : xc_ok "ClearingBooks" cb_ks s) {cI cJ : ClassId} (hK : va_K (dC, dI) vwCl [(cI, .int), (cJ, .long)] s) {ad ad2 : Nat → Nat} {o : Nat} {t : Nat} {bb : ST} {ov : Nat → Int64} {cd : Nat} (hv : invS t bb) (ht : t < 512) (hi : 5 * t + 5 ≤ L) {H : Heap} {locs : List Loc} (hP : va_P (dC, dI) vwCl ((cbS ad cI cJ bb ++ [(o, .inl (cJ, 1, .inr (.inl ov)))]) ++ mdS ad2 cI cJ cd bb) H) (hD : va_D (fun q : Nat => s.heap.size ≤ q) ((cbS ad cI cJ bb ++ [(o, .inl (cJ, 1, .inr (.inl ov)))]) ++ mdS ad2 cI cJ cd bb)) (hS : va_S (fun q : Nat => s.heap.size ≤ q) s.heap H locs) {ls : Array Slot} (hl : lv_has ls 8 [(0, .ref b), (1, .ref (ad 0)), (2, .ref (ad2 0)), (3, .ref o), (4, .int (nI (5 * t)))]) (ih : ∀ (bb : ST) (ov : Nat → Int64) (cd : Nat) (H : Heap) (locs : List Loc) (ls : Array Slot), invS (t + 1) bb → va_P (dC, dI) vwCl ((cbS ad cI cJ bb ++ [(o, .inl (cJ, 1, .inr (.inl ov)))]) ++ mdS ad2 cI cJ cd bb) H → va_D (fun q : Nat => s.heap.size ≤ q) ((cbS ad cI cJ bb ++ [(o, .inl (cJ, 1, .inr (.inl ov)))]) ++ mdS ad2 cI cJ cd bb) → va_S (fun q : Nat => s.heap.size ≤ q) s.heap H locs → lv_has ls 8 [(0, .ref b), (1, .ref (ad 0)), (2, .ref (ad2 0)), (3, .ref o), (4, .int (nI (5 * t + 5)))] → W p l e room_1 s m #[Value.ref b] below meth c H locs (23 + (t + 1)) (323 + 6 * (t + 1)) (lw_Z below #[Value.ref b] s) (F0 m 23 ls [])) : W p l e room_1 s m #[Value.ref b] below meth c H locs (23 + t) (323 + 6 * t) (lw_Z below #[Value.ref b] s) (F0 m 629 ls []) := by
  obtain ⟨hx, hb, hr, hml, hown0, hts0, hX, hbl, hlocks, hgv⟩ := id C0
  have hts : ∀ w ∈ wAll, w.before #[Value.ref b] s = true := fun w h => hts0 w (wAll_tbl h)
  have hown : s.vm.findClass "ClearingBooksLaw" = some m.cls := hown0
  have hA : ∀ q : Nat, s.heap.size ≤ q → (fun q : Nat => s.heap.size ≤ q) q := fun _ h => h
  have hbA : ¬ (fun q : Nat => s.heap.size ≤ q) b := Nat.not_le.mpr hbl
  obtain ⟨k, z1, ov1, b1, hk, hw, hm, heq, hv1⟩ := s_transfer l hl0 dC dI ad ad2 cI cJ o ov cd t bb hv ht (xs (5 * t + 1)) (xs (5 * t + 2))
  refine lv_aload_n hx hb d_L_law_629 rfl (lv_at hl 1 rfl) ?_
  refine lv_aload_n hx hb d_L_law_630 rfl (lv_at hl 0 rfl) ?_
  refine lv_iload hx hb d_L_law_631 (lv_at hl 4 rfl) ?_
  refine lv_iconst (v := nI 1) hx hb d_L_law_633 (by decide) ?_
  refine t_iadd hx hb d_L_law_634 (v := nI ((5 * t) + 1)) (nI_add (5 * t) 1) ?_
  refine xa_sld hx hb hX hbl hbA hS (j := (5 * t) + 1) (by omega) (by omega) d_L_law_635 ?_
  refine lv_aload_n hx hb d_L_law_636 rfl (lv_at hl 0 rfl) ?_
  refine lv_iload hx hb d_L_law_637 (lv_at hl 4 rfl) ?_
  refine lv_iconst (v := nI 2) hx hb d_L_law_639 (by decide) ?_
  refine t_iadd hx hb d_L_law_640 (v := nI ((5 * t) + 2)) (nI_add (5 * t) 2) ?_
  refine xa_sld hx hb hX hbl hbA hS (j := (5 * t) + 2) (by omega) (by omega) d_L_law_641 ?_
  refine lv_aload_n hx hb d_L_law_642 rfl (lv_at hl 3 rfl) ?_
  refine ml_calli (xw_runS (n := 4) (As := [.ref (ad 0), .int (xs ((5 * t) + 1)), .int (xs ((5 * t) + 2)), .ref o]) (rest := []) ⟨hx, hb, hml, hown, hts⟩ (hw _) kw_247 kw_245 kw_246 kw_0 rfl rfl (by decide +kernel) ⟨Nat.le_of_ble_eq_true rfl, Nat.le_of_ble_eq_true rfl⟩ (mx_preS hK (P_l hP) (D_l hD) (fun U hU hW => xc_moved hX0 hW (fun q hq => by rw [hU]; exact hS.2.1 q hq (Nat.not_le.mpr hq)))) rfl rfl hl.1 rfl (lv_room (Nat.le_of_ble_eq_true rfl)) d_L_law_643 ⟨by show 23 + t + 1 ≤ 1056; omega, by show 323 + 6 * t + 6 ≤ 8569; omega⟩) hP hD hS hA (fun r9 H locs hq hP hD hS => ?_)
  rw [hq]
  have hP : va_P (dC, dI) vwCl ((cbS ad cI cJ b1 ++ [(o, .inl (cJ, 1, .inr (.inl ov1)))]) ++ mdS ad2 cI cJ cd bb) H := hP
  have hD : va_D (fun q : Nat => s.heap.size ≤ q) ((cbS ad cI cJ b1 ++ [(o, .inl (cJ, 1, .inr (.inl ov1)))]) ++ mdS ad2 cI cJ cd bb) := hD
  refine lv_istore (lv' := [(5, .int (nI k)), (0, .ref b), (1, .ref (ad 0)), (2, .ref (ad2 0)), (3, .ref o), (4, .int (nI (5 * t)))]) hx hb d_L_law_646 hl (by decide) rfl (fun ls hl => ?_)
  refine lv_aload_n hx hb d_L_law_648 rfl (lv_at hl 3 rfl) ?_
  refine lv_aload_n hx hb d_L_law_649 rfl (lv_at hl 1 rfl) ?_
  refine lv_iload hx hb d_L_law_650 (lv_at hl 5 rfl) ?_
  refine lv_iconst (v := nI 1) hx hb d_L_law_652 (by decide) ?_
  refine t_iadd hx hb d_L_law_653 (v := nI ((5 * t) + 1)) (nI_add (5 * t) 1) ?_
  refine xa_sld hx hb hX hbl hbA hS (j := (5 * t) + 1) (by omega) (by omega) d_L_law_654 ?_
  refine lv_aload_n hx hb d_L_law_655 rfl (lv_at hl 1 rfl) ?_
  refine lv_iload hx hb d_L_law_656 (lv_at hl 5 rfl) ?_
  refine lv_iconst (v := nI 2) hx hb d_L_law_658 (by decide) ?_
  refine t_iadd hx hb d_L_law_659 (v := nI ((5 * t) + 2)) (nI_add (5 * t) 2) ?_
  refine xa_sld hx hb hX hbl hbA hS (j := (5 * t) + 2) (by omega) (by omega) d_L_law_660 ?_
  refine mr_calll (va_runV (As := [.int (xs ((5 * t) + 1)), .int (xs ((5 * t) + 2))]) (rest := []) ⟨hx, hb, hml, hown, hts⟩ (hm _) (cwV 2 hts (wAll_v kw_360 kw_361 kw_362 kw_2 kw_363) rfl rfl rfl (by decide +kernel) ⟨Nat.le_of_ble_eq_true rfl, Nat.le_of_ble_eq_true rfl⟩) (mu_preV hK (P_r hP) (D_r hD) (ci := 1) (q0 := 0) rfl rfl) rfl rfl hl.1 rfl (lv_room (Nat.le_of_ble_eq_true rfl)) d_L_law_661 ⟨by show 23 + t + 1 + 0 ≤ 1056; omega, by show 323 + 6 * t + 6 + 0 ≤ 8569; omega⟩) hP hD hS hA (fun r9 H locs hq hP hD hS => ?_)
  rw [hq]
  have hP : va_P (dC, dI) vwCl ((cbS ad cI cJ b1 ++ [(o, .inl (cJ, 1, .inr (.inl ov1)))]) ++ mdS ad2 cI cJ k b1) H := hP
  have hD : va_D (fun q : Nat => s.heap.size ≤ q) ((cbS ad cI cJ b1 ++ [(o, .inl (cJ, 1, .inr (.inl ov1)))]) ++ mdS ad2 cI cJ k b1) := hD
  refine lv_lstore (lv' := [(6, .long z1), (5, .int (nI k)), (0, .ref b), (1, .ref (ad 0)), (2, .ref (ad2 0)), (3, .ref o), (4, .int (nI (5 * t)))]) hx hb d_L_law_664 hl (by decide) rfl (fun ls hl => ?_)
  refine lv_aload_n hx hb d_L_law_666 rfl (lv_at hl 4 rfl) ?_
  refine ro_call (va_runV (As := []) (rest := []) ⟨hx, hb, hml, hown, hts⟩ (m_thrown l dC dI ad2 cI cJ k b1.1 b1.2.1 b1.2.2.1 b1.2.2.2.1 b1.2.2.2.2.1 b1.2.2.2.2.2.1 b1.2.2.2.2.2.2.1 b1.2.2.2.2.2.2.2.1 b1.2.2.2.2.2.2.2.2.1 b1.2.2.2.2.2.2.2.2.2.1 b1.2.2.2.2.2.2.2.2.2.2.1 b1.2.2.2.2.2.2.2.2.2.2.2) (cwV 0 hts (wAll_v kw_313 kw_314 kw_315 kw_2 kw_316) rfl rfl rfl (by decide +kernel) ⟨Nat.le_of_ble_eq_true rfl, Nat.le_of_ble_eq_true rfl⟩) (ro_preV bl_tt hK (P_r hP) (ci := 1) (q0 := 0) rfl rfl (fun _ _ _ => trivial)) rfl rfl hl.1 rfl (lv_room (Nat.le_of_ble_eq_true rfl)) d_L_law_667 ⟨by show 23 + t + 1 + 0 ≤ 1056; omega, by show 323 + 6 * t + 6 + 0 ≤ 8569; omega⟩) ?_
  refine W.eq (g2 := F0 m 670 ls [.int (nI k)]) rfl ?_
  refine lv_iload hx hb d_L_law_670 (lv_at hl 1 rfl) ?_
  refine lv_icmp_eq (tgt := 677) hx hb d_L_law_672 (by decide) (fun c1 => ?_) (fun c1 => ?_)
  · replace c1 := (nI_eq (by omega) (by omega)).mp c1
    refine lv_iload hx hb d_L_law_677 (lv_at hl 1 rfl) ?_
    refine lv_if_ne (tgt := 693) hx hb d_L_law_679 (by decide) (fun c2 => ?_) (fun c2 => ?_)
    · refine lv_goto (tgt := 789) hx hb d_L_law_693 (by decide) ?_
      refine lv_iinc (v := nI (5 * t + 5)) (lv' := [(4, .int (nI (5 * t + 5))), (6, .long z1), (5, .int (nI k)), (0, .ref b), (1, .ref (ad 0)), (2, .ref (ad2 0)), (3, .ref o)]) hx hb d_L_law_789 hl (k := 6) rfl (nI_add (5 * t) 5) (by decide) rfl (fun ls hl => ?_)
      refine lv_goto (tgt := 23) hx hb d_L_law_792 (by decide) ?_
      refine W.widen (k := 23 + (t + 1)) (n := 323 + 6 * (t + 1)) (by omega) (by omega) ?_
      exact ih b1 ov1 k H locs ls hv1 hP hD hS (lv_sub hl [3, 4, 5, 6, 0] rfl)
    · have e5 := heq (k_z hk c2)
      refine lv_aload_n hx hb d_L_law_682 rfl (lv_at hl 5 rfl) ?_
      refine lv_iconst (v := nI 0) hx hb d_L_law_683 (by decide) ?_
      refine xa_laload (f := ov1) hx hb hK hP 11 1 rfl rfl (j := 0) (by omega) (by decide) d_L_law_684 ?_
      refine lv_lload hx hb d_L_law_685 (lv_at hl 0 rfl) ?_
      refine W.lcmp hx hb d_L_law_687 ?_
      refine lv_if_eq (tgt := 693) hx hb d_L_law_688 (by decide) (fun c3 => ?_) (fun c3 => ?_)
      · replace c3 := (lg_cmp_eq _ _).mp c3
        refine lv_goto (tgt := 789) hx hb d_L_law_693 (by decide) ?_
        refine lv_iinc (v := nI (5 * t + 5)) (lv' := [(4, .int (nI (5 * t + 5))), (6, .long z1), (5, .int (nI k)), (0, .ref b), (1, .ref (ad 0)), (2, .ref (ad2 0)), (3, .ref o)]) hx hb d_L_law_789 hl (k := 6) rfl (nI_add (5 * t) 5) (by decide) rfl (fun ls hl => ?_)
        refine lv_goto (tgt := 23) hx hb d_L_law_792 (by decide) ?_
        refine W.widen (k := 23 + (t + 1)) (n := 323 + 6 * (t + 1)) (by omega) (by omega) ?_
        exact ih b1 ov1 k H locs ls hv1 hP hD hS (lv_sub hl [3, 4, 5, 6, 0] rfl)
      · replace c3 := mt (lg_cmp_eq _ _).mpr c3
        exact absurd e5 c3
  · replace c1 := mt (nI_eq (by omega) (by omega)).mpr c1
    exact absurd rfl c1
set_option maxHeartbeats 4000000 in
set_option maxRecDepth 100000 in
theorem op_party {p : Program} {l : Launch} {e : Env} {s : State} {m : MethodId} {below : List Frame} {meth : Method} {c : Code} {dC : Nat → ClassId} {dI : Nat → Nat → Nat} {b L : Nat} {xs : Nat → Int32} (hl0 : l.stackTraces = false) (hL : L ≤ 2560) (C0 : lw_At p s m meth c b L xs) (hX0 : xc_ok "ClearingBooks" cb_ks s) {cI cJ : ClassId} (hK : va_K (dC, dI) vwCl [(cI, .int), (cJ, .long)] s) {ad ad2 : Nat → Nat} {o : Nat} {t : Nat} {bb : ST} {ov : Nat → Int64} {cd : Nat} (hv : invS t bb) (ht : t < 512) (hi : 5 * t + 5 ≤ L) {H : Heap} {locs : List Loc} (hP : va_P (dC, dI) vwCl ((cbS ad cI cJ bb ++ [(o, .inl (cJ, 1, .inr (.inl ov)))]) ++ mdS ad2 cI cJ cd bb) H) (hD : va_D (fun q : Nat => s.heap.size ≤ q) ((cbS ad cI cJ bb ++ [(o, .inl (cJ, 1, .inr (.inl ov)))]) ++ mdS ad2 cI cJ cd bb)) (hS : va_S (fun q : Nat => s.heap.size ≤ q) s.heap H locs) {ls : Array Slot} (hl : lv_has ls 8 [(0, .ref b), (1, .ref (ad 0)), (2, .ref (ad2 0)), (3, .ref o), (4, .int (nI (5 * t)))]) (ih : ∀ (bb : ST) (ov : Nat → Int64) (cd : Nat) (H : Heap) (locs : List Loc) (ls : Array Slot), invS (t + 1) bb → va_P (dC, dI) vwCl ((cbS ad cI cJ bb ++ [(o, .inl (cJ, 1, .inr (.inl ov)))]) ++ mdS ad2 cI cJ cd bb) H → va_D (fun q : Nat => s.heap.size ≤ q) ((cbS ad cI cJ bb ++ [(o, .inl (cJ, 1, .inr (.inl ov)))]) ++ mdS ad2 cI cJ cd bb) → va_S (fun q : Nat => s.heap.size ≤ q) s.heap H locs → lv_has ls 8 [(0, .ref b), (1, .ref (ad 0)), (2, .ref (ad2 0)), (3, .ref o), (4, .int (nI (5 * t + 5)))] → W p l e room_1 s m #[Value.ref b] below meth c H locs (23 + (t + 1)) (323 + 6 * (t + 1)) (lw_Z below #[Value.ref b] s) (F0 m 23 ls [])) : W p l e room_1 s m #[Value.ref b] below meth c H locs (23 + t) (323 + 6 * t) (lw_Z below #[Value.ref b] s) (F0 m 696 ls []) := by
  obtain ⟨hx, hb, hr, hml, hown0, hts0, hX, hbl, hlocks, hgv⟩ := id C0
  have hts : ∀ w ∈ wAll, w.before #[Value.ref b] s = true := fun w h => hts0 w (wAll_tbl h)
  have hown : s.vm.findClass "ClearingBooksLaw" = some m.cls := hown0
  have hA : ∀ q : Nat, s.heap.size ≤ q → (fun q : Nat => s.heap.size ≤ q) q := fun _ h => h
  have hbA : ¬ (fun q : Nat => s.heap.size ≤ q) b := Nat.not_le.mpr hbl
  obtain ⟨k, z1, ov1, b1, hk, hw, hm, heq, hv1⟩ := s_party l hl0 dC dI ad ad2 cI cJ o ov cd t bb hv ht (xs (5 * t + 1)) (xs (5 * t + 2))
  refine lv_aload_n hx hb d_L_law_696 rfl (lv_at hl 1 rfl) ?_
  refine lv_aload_n hx hb d_L_law_697 rfl (lv_at hl 0 rfl) ?_
  refine lv_iload hx hb d_L_law_698 (lv_at hl 4 rfl) ?_
  refine lv_iconst (v := nI 1) hx hb d_L_law_700 (by decide) ?_
  refine t_iadd hx hb d_L_law_701 (v := nI ((5 * t) + 1)) (nI_add (5 * t) 1) ?_
  refine xa_sld hx hb hX hbl hbA hS (j := (5 * t) + 1) (by omega) (by omega) d_L_law_702 ?_
  refine lv_aload_n hx hb d_L_law_703 rfl (lv_at hl 0 rfl) ?_
  refine lv_iload hx hb d_L_law_704 (lv_at hl 4 rfl) ?_
  refine lv_iconst (v := nI 2) hx hb d_L_law_706 (by decide) ?_
  refine t_iadd hx hb d_L_law_707 (v := nI ((5 * t) + 2)) (nI_add (5 * t) 2) ?_
  refine xa_sld hx hb hX hbl hbA hS (j := (5 * t) + 2) (by omega) (by omega) d_L_law_708 ?_
  refine lv_aload_n hx hb d_L_law_709 rfl (lv_at hl 3 rfl) ?_
  refine ml_calli (xw_runS (n := 4) (As := [.ref (ad 0), .int (xs ((5 * t) + 1)), .int (xs ((5 * t) + 2)), .ref o]) (rest := []) ⟨hx, hb, hml, hown, hts⟩ (hw _) kw_256 kw_254 kw_255 kw_0 rfl rfl (by decide +kernel) ⟨Nat.le_of_ble_eq_true rfl, Nat.le_of_ble_eq_true rfl⟩ (mx_preS hK (P_l hP) (D_l hD) (fun U hU hW => xc_moved hX0 hW (fun q hq => by rw [hU]; exact hS.2.1 q hq (Nat.not_le.mpr hq)))) rfl rfl hl.1 rfl (lv_room (Nat.le_of_ble_eq_true rfl)) d_L_law_710 ⟨by show 23 + t + 1 ≤ 1056; omega, by show 323 + 6 * t + 6 ≤ 8569; omega⟩) hP hD hS hA (fun r9 H locs hq hP hD hS => ?_)
  rw [hq]
  have hP : va_P (dC, dI) vwCl ((cbS ad cI cJ b1 ++ [(o, .inl (cJ, 1, .inr (.inl ov1)))]) ++ mdS ad2 cI cJ cd bb) H := hP
  have hD : va_D (fun q : Nat => s.heap.size ≤ q) ((cbS ad cI cJ b1 ++ [(o, .inl (cJ, 1, .inr (.inl ov1)))]) ++ mdS ad2 cI cJ cd bb) := hD
  refine lv_istore (lv' := [(5, .int (nI k)), (0, .ref b), (1, .ref (ad 0)), (2, .ref (ad2 0)), (3, .ref o), (4, .int (nI (5 * t)))]) hx hb d_L_law_713 hl (by decide) rfl (fun ls hl => ?_)
  refine lv_aload_n hx hb d_L_law_715 rfl (lv_at hl 3 rfl) ?_
  refine lv_aload_n hx hb d_L_law_716 rfl (lv_at hl 1 rfl) ?_
  refine lv_iload hx hb d_L_law_717 (lv_at hl 5 rfl) ?_
  refine lv_iconst (v := nI 1) hx hb d_L_law_719 (by decide) ?_
  refine t_iadd hx hb d_L_law_720 (v := nI ((5 * t) + 1)) (nI_add (5 * t) 1) ?_
  refine xa_sld hx hb hX hbl hbA hS (j := (5 * t) + 1) (by omega) (by omega) d_L_law_721 ?_
  refine lv_aload_n hx hb d_L_law_722 rfl (lv_at hl 1 rfl) ?_
  refine lv_iload hx hb d_L_law_723 (lv_at hl 5 rfl) ?_
  refine lv_iconst (v := nI 2) hx hb d_L_law_725 (by decide) ?_
  refine t_iadd hx hb d_L_law_726 (v := nI ((5 * t) + 2)) (nI_add (5 * t) 2) ?_
  refine xa_sld hx hb hX hbl hbA hS (j := (5 * t) + 2) (by omega) (by omega) d_L_law_727 ?_
  refine mr_calll (va_runV (As := [.int (xs ((5 * t) + 1)), .int (xs ((5 * t) + 2))]) (rest := []) ⟨hx, hb, hml, hown, hts⟩ (hm _) (cwV 2 hts (wAll_v kw_364 kw_365 kw_366 kw_2 kw_367) rfl rfl rfl (by decide +kernel) ⟨Nat.le_of_ble_eq_true rfl, Nat.le_of_ble_eq_true rfl⟩) (mu_preV hK (P_r hP) (D_r hD) (ci := 1) (q0 := 0) rfl rfl) rfl rfl hl.1 rfl (lv_room (Nat.le_of_ble_eq_true rfl)) d_L_law_728 ⟨by show 23 + t + 1 + 0 ≤ 1056; omega, by show 323 + 6 * t + 6 + 0 ≤ 8569; omega⟩) hP hD hS hA (fun r9 H locs hq hP hD hS => ?_)
  rw [hq]
  have hP : va_P (dC, dI) vwCl ((cbS ad cI cJ b1 ++ [(o, .inl (cJ, 1, .inr (.inl ov1)))]) ++ mdS ad2 cI cJ k b1) H := hP
  have hD : va_D (fun q : Nat => s.heap.size ≤ q) ((cbS ad cI cJ b1 ++ [(o, .inl (cJ, 1, .inr (.inl ov1)))]) ++ mdS ad2 cI cJ k b1) := hD
  refine lv_lstore (lv' := [(6, .long z1), (5, .int (nI k)), (0, .ref b), (1, .ref (ad 0)), (2, .ref (ad2 0)), (3, .ref o), (4, .int (nI (5 * t)))]) hx hb d_L_law_731 hl (by decide) rfl (fun ls hl => ?_)
  refine lv_aload_n hx hb d_L_law_733 rfl (lv_at hl 4 rfl) ?_
  refine ro_call (va_runV (As := []) (rest := []) ⟨hx, hb, hml, hown, hts⟩ (m_thrown l dC dI ad2 cI cJ k b1.1 b1.2.1 b1.2.2.1 b1.2.2.2.1 b1.2.2.2.2.1 b1.2.2.2.2.2.1 b1.2.2.2.2.2.2.1 b1.2.2.2.2.2.2.2.1 b1.2.2.2.2.2.2.2.2.1 b1.2.2.2.2.2.2.2.2.2.1 b1.2.2.2.2.2.2.2.2.2.2.1 b1.2.2.2.2.2.2.2.2.2.2.2) (cwV 0 hts (wAll_v kw_313 kw_314 kw_315 kw_2 kw_316) rfl rfl rfl (by decide +kernel) ⟨Nat.le_of_ble_eq_true rfl, Nat.le_of_ble_eq_true rfl⟩) (ro_preV bl_tt hK (P_r hP) (ci := 1) (q0 := 0) rfl rfl (fun _ _ _ => trivial)) rfl rfl hl.1 rfl (lv_room (Nat.le_of_ble_eq_true rfl)) d_L_law_734 ⟨by show 23 + t + 1 + 0 ≤ 1056; omega, by show 323 + 6 * t + 6 + 0 ≤ 8569; omega⟩) ?_
  refine W.eq (g2 := F0 m 737 ls [.int (nI k)]) rfl ?_
  refine lv_iload hx hb d_L_law_737 (lv_at hl 1 rfl) ?_
  refine lv_icmp_eq (tgt := 744) hx hb d_L_law_739 (by decide) (fun c1 => ?_) (fun c1 => ?_)
  · replace c1 := (nI_eq (by omega) (by omega)).mp c1
    refine lv_iload hx hb d_L_law_744 (lv_at hl 1 rfl) ?_
    refine lv_if_ne (tgt := 760) hx hb d_L_law_746 (by decide) (fun c2 => ?_) (fun c2 => ?_)
    · refine lv_goto (tgt := 789) hx hb d_L_law_760 (by decide) ?_
      refine lv_iinc (v := nI (5 * t + 5)) (lv' := [(4, .int (nI (5 * t + 5))), (6, .long z1), (5, .int (nI k)), (0, .ref b), (1, .ref (ad 0)), (2, .ref (ad2 0)), (3, .ref o)]) hx hb d_L_law_789 hl (k := 6) rfl (nI_add (5 * t) 5) (by decide) rfl (fun ls hl => ?_)
      refine lv_goto (tgt := 23) hx hb d_L_law_792 (by decide) ?_
      refine W.widen (k := 23 + (t + 1)) (n := 323 + 6 * (t + 1)) (by omega) (by omega) ?_
      exact ih b1 ov1 k H locs ls hv1 hP hD hS (lv_sub hl [3, 4, 5, 6, 0] rfl)
    · have e5 := heq (k_z hk c2)
      refine lv_aload_n hx hb d_L_law_749 rfl (lv_at hl 5 rfl) ?_
      refine lv_iconst (v := nI 0) hx hb d_L_law_750 (by decide) ?_
      refine xa_laload (f := ov1) hx hb hK hP 11 1 rfl rfl (j := 0) (by omega) (by decide) d_L_law_751 ?_
      refine lv_lload hx hb d_L_law_752 (lv_at hl 0 rfl) ?_
      refine W.lcmp hx hb d_L_law_754 ?_
      refine lv_if_eq (tgt := 760) hx hb d_L_law_755 (by decide) (fun c3 => ?_) (fun c3 => ?_)
      · replace c3 := (lg_cmp_eq _ _).mp c3
        refine lv_goto (tgt := 789) hx hb d_L_law_760 (by decide) ?_
        refine lv_iinc (v := nI (5 * t + 5)) (lv' := [(4, .int (nI (5 * t + 5))), (6, .long z1), (5, .int (nI k)), (0, .ref b), (1, .ref (ad 0)), (2, .ref (ad2 0)), (3, .ref o)]) hx hb d_L_law_789 hl (k := 6) rfl (nI_add (5 * t) 5) (by decide) rfl (fun ls hl => ?_)
        refine lv_goto (tgt := 23) hx hb d_L_law_792 (by decide) ?_
        refine W.widen (k := 23 + (t + 1)) (n := 323 + 6 * (t + 1)) (by omega) (by omega) ?_
        exact ih b1 ov1 k H locs ls hv1 hP hD hS (lv_sub hl [3, 4, 5, 6, 0] rfl)
      · replace c3 := mt (lg_cmp_eq _ _).mpr c3
        exact absurd e5 c3
  · replace c1 := mt (nI_eq (by omega) (by omega)).mpr c1
    exact absurd rfl c1
set_option maxHeartbeats 4000000 in
set_option maxRecDepth 100000 in
theorem op_settle {p : Program} {l : Launch} {e : Env} {s : State} {m : MethodId} {below : List Frame} {meth : Method} {c : Code} {dC : Nat → ClassId} {dI : Nat → Nat → Nat} {b L : Nat} {xs : Nat → Int32} (hl0 : l.stackTraces = false) (hL : L ≤ 2560) (C0 : lw_At p s m meth c b L xs) (hX0 : xc_ok "ClearingBooks" cb_ks s) {cI cJ : ClassId} (hK : va_K (dC, dI) vwCl [(cI, .int), (cJ, .long)] s) {ad ad2 : Nat → Nat} {o : Nat} {t : Nat} {bb : ST} {ov : Nat → Int64} {cd : Nat} (hv : invS t bb) (ht : t < 512) (hi : 5 * t + 5 ≤ L) {H : Heap} {locs : List Loc} (hP : va_P (dC, dI) vwCl ((cbS ad cI cJ bb ++ [(o, .inl (cJ, 1, .inr (.inl ov)))]) ++ mdS ad2 cI cJ cd bb) H) (hD : va_D (fun q : Nat => s.heap.size ≤ q) ((cbS ad cI cJ bb ++ [(o, .inl (cJ, 1, .inr (.inl ov)))]) ++ mdS ad2 cI cJ cd bb)) (hS : va_S (fun q : Nat => s.heap.size ≤ q) s.heap H locs) {ls : Array Slot} (hl : lv_has ls 8 [(0, .ref b), (1, .ref (ad 0)), (2, .ref (ad2 0)), (3, .ref o), (4, .int (nI (5 * t)))]) (ih : ∀ (bb : ST) (ov : Nat → Int64) (cd : Nat) (H : Heap) (locs : List Loc) (ls : Array Slot), invS (t + 1) bb → va_P (dC, dI) vwCl ((cbS ad cI cJ bb ++ [(o, .inl (cJ, 1, .inr (.inl ov)))]) ++ mdS ad2 cI cJ cd bb) H → va_D (fun q : Nat => s.heap.size ≤ q) ((cbS ad cI cJ bb ++ [(o, .inl (cJ, 1, .inr (.inl ov)))]) ++ mdS ad2 cI cJ cd bb) → va_S (fun q : Nat => s.heap.size ≤ q) s.heap H locs → lv_has ls 8 [(0, .ref b), (1, .ref (ad 0)), (2, .ref (ad2 0)), (3, .ref o), (4, .int (nI (5 * t + 5)))] → W p l e room_1 s m #[Value.ref b] below meth c H locs (23 + (t + 1)) (323 + 6 * (t + 1)) (lw_Z below #[Value.ref b] s) (F0 m 23 ls [])) : W p l e room_1 s m #[Value.ref b] below meth c H locs (23 + t) (323 + 6 * t) (lw_Z below #[Value.ref b] s) (F0 m 616 ls []) := by
  obtain ⟨hx, hb, hr, hml, hown0, hts0, hX, hbl, hlocks, hgv⟩ := id C0
  have hts : ∀ w ∈ wAll, w.before #[Value.ref b] s = true := fun w h => hts0 w (wAll_tbl h)
  have hown : s.vm.findClass "ClearingBooksLaw" = some m.cls := hown0
  have hA : ∀ q : Nat, s.heap.size ≤ q → (fun q : Nat => s.heap.size ≤ q) q := fun _ h => h
  have hbA : ¬ (fun q : Nat => s.heap.size ≤ q) b := Nat.not_le.mpr hbl
  obtain ⟨n, tc, ki, ra, po, se, bc, bs, op, pr, pe, pm⟩ := bb
  have hv : inv t n tc ki ra po se := hv
  have hn := hv.2.1
  refine lv_aload_n hx hb d_L_law_616 rfl (lv_at hl 1 rfl) ?_
  have hP : va_P (dC, dI) vwCl (cbS ad cI cJ (n, tc, ki, ra, po, se, bc, bs, op, pr, pe, pm) ++ ([(o, .inl (cJ, 1, .inr (.inl ov)))] ++ mdS ad2 cI cJ cd (n, tc, ki, ra, po, se, bc, bs, op, pr, pe, pm))) H := hP
  have hD : va_D (fun q : Nat => s.heap.size ≤ q) (cbS ad cI cJ (n, tc, ki, ra, po, se, bc, bs, op, pr, pe, pm) ++ ([(o, .inl (cJ, 1, .inr (.inl ov)))] ++ mdS ad2 cI cJ cd (n, tc, ki, ra, po, se, bc, bs, op, pr, pe, pm))) := hD
  refine ml_calli (va_runV (As := []) (rest := []) ⟨hx, hb, hml, hown, hts⟩ (c_settle l dC dI ad cI cJ n tc ki ra po se bc bs op pr pe pm _ hv.1 hn) (cwV 0 hts (wAll_v kw_56 kw_57 kw_58 kw_1 kw_59) rfl rfl rfl (by decide +kernel) ⟨Nat.le_of_ble_eq_true rfl, Nat.le_of_ble_eq_true rfl⟩) (mu_preV hK (P_l hP) (D_l hD) (ci := 0) (q0 := 0) rfl rfl) rfl rfl hl.1 rfl (lv_room (Nat.le_of_ble_eq_true rfl)) d_L_law_617 ⟨by show 23 + t + 0 ≤ 1056; omega, by show 323 + 6 * t + 0 ≤ 8569; omega⟩) hP hD hS hA (fun r9 H locs hq hP hD hS => ?_)
  rw [hq]
  have hP : va_P (dC, dI) vwCl ((cbS ad cI cJ ((n, (trs n 14 (0, cpy n po op, pr, pe, pm)).1, ki, ra, cpy n (fun _ => 0) po, cpy n (fun q => se q + po q) se, bc, bs, (trs n 14 (0, cpy n po op, pr, pe, pm)).2.1, (trs n 14 (0, cpy n po op, pr, pe, pm)).2.2.1, (trs n 14 (0, cpy n po op, pr, pe, pm)).2.2.2.1, (trs n 14 (0, cpy n po op, pr, pe, pm)).2.2.2.2)) ++ [(o, .inl (cJ, 1, .inr (.inl ov)))]) ++ mdS ad2 cI cJ cd ((n, tc, ki, ra, po, se, bc, bs, op, pr, pe, pm))) H := hP
  have hD : va_D (fun q : Nat => s.heap.size ≤ q) ((cbS ad cI cJ ((n, (trs n 14 (0, cpy n po op, pr, pe, pm)).1, ki, ra, cpy n (fun _ => 0) po, cpy n (fun q => se q + po q) se, bc, bs, (trs n 14 (0, cpy n po op, pr, pe, pm)).2.1, (trs n 14 (0, cpy n po op, pr, pe, pm)).2.2.1, (trs n 14 (0, cpy n po op, pr, pe, pm)).2.2.2.1, (trs n 14 (0, cpy n po op, pr, pe, pm)).2.2.2.2)) ++ [(o, .inl (cJ, 1, .inr (.inl ov)))]) ++ mdS ad2 cI cJ cd ((n, tc, ki, ra, po, se, bc, bs, op, pr, pe, pm))) := hD
  refine lv_aload_n hx hb d_L_law_620 rfl (lv_at hl 2 rfl) ?_
  refine mr_calli (va_runV (As := []) (rest := [.int (nI (trs n 14 (0, cpy n po op, pr, pe, pm)).1)]) ⟨hx, hb, hml, hown, hts⟩ (m_settle l dC dI ad2 cI cJ cd n tc ki ra po se bc bs op pr pe pm _ hv.1 hn hv.2.2.2.2.2.1 (inv_sml hv (Nat.le_of_lt ht))) (cwV 0 hts (wAll_v kw_356 kw_357 kw_358 kw_2 kw_359) rfl rfl rfl (by decide +kernel) ⟨Nat.le_of_ble_eq_true rfl, Nat.le_of_ble_eq_true rfl⟩) (mu_preV hK (P_r hP) (D_r hD) (ci := 1) (q0 := 0) rfl rfl) rfl rfl hl.1 rfl (lv_room (Nat.le_of_ble_eq_true rfl)) d_L_law_621 ⟨by show 23 + t + 0 ≤ 1056; omega, by show 323 + 6 * t + 0 ≤ 8569; omega⟩) hP hD hS hA (fun r9 H locs hq hP hD hS => ?_)
  rw [hq]
  have hP : va_P (dC, dI) vwCl ((cbS ad cI cJ ((n, (trs n 14 (0, cpy n po op, pr, pe, pm)).1, ki, ra, cpy n (fun _ => 0) po, cpy n (fun q => se q + po q) se, bc, bs, (trs n 14 (0, cpy n po op, pr, pe, pm)).2.1, (trs n 14 (0, cpy n po op, pr, pe, pm)).2.2.1, (trs n 14 (0, cpy n po op, pr, pe, pm)).2.2.2.1, (trs n 14 (0, cpy n po op, pr, pe, pm)).2.2.2.2)) ++ [(o, .inl (cJ, 1, .inr (.inl ov)))]) ++ mdS ad2 cI cJ 0 ((n, (trs n 14 (0, cpy n po op, pr, pe, pm)).1, ki, ra, cpy n (fun _ => 0) po, cpy n (fun q => se q + po q) se, bc, bs, (trs n 14 (0, cpy n po op, pr, pe, pm)).2.1, (trs n 14 (0, cpy n po op, pr, pe, pm)).2.2.1, (trs n 14 (0, cpy n po op, pr, pe, pm)).2.2.2.1, (trs n 14 (0, cpy n po op, pr, pe, pm)).2.2.2.2))) H := hP
  have hD : va_D (fun q : Nat => s.heap.size ≤ q) ((cbS ad cI cJ ((n, (trs n 14 (0, cpy n po op, pr, pe, pm)).1, ki, ra, cpy n (fun _ => 0) po, cpy n (fun q => se q + po q) se, bc, bs, (trs n 14 (0, cpy n po op, pr, pe, pm)).2.1, (trs n 14 (0, cpy n po op, pr, pe, pm)).2.2.1, (trs n 14 (0, cpy n po op, pr, pe, pm)).2.2.2.1, (trs n 14 (0, cpy n po op, pr, pe, pm)).2.2.2.2)) ++ [(o, .inl (cJ, 1, .inr (.inl ov)))]) ++ mdS ad2 cI cJ 0 ((n, (trs n 14 (0, cpy n po op, pr, pe, pm)).1, ki, ra, cpy n (fun _ => 0) po, cpy n (fun q => se q + po q) se, bc, bs, (trs n 14 (0, cpy n po op, pr, pe, pm)).2.1, (trs n 14 (0, cpy n po op, pr, pe, pm)).2.2.1, (trs n 14 (0, cpy n po op, pr, pe, pm)).2.2.2.1, (trs n 14 (0, cpy n po op, pr, pe, pm)).2.2.2.2))) := hD
  refine lv_icmp_eq (tgt := 789) hx hb d_L_law_624 (by decide) (fun c1 => ?_) (fun c1 => ?_)
  · refine lv_iinc (v := nI (5 * t + 5)) (lv' := [(4, .int (nI (5 * t + 5))), (0, .ref b), (1, .ref (ad 0)), (2, .ref (ad2 0)), (3, .ref o)]) hx hb d_L_law_789 hl (k := 4) rfl (nI_add (5 * t) 5) (by decide) rfl (fun ls hl => ?_)
    refine lv_goto (tgt := 23) hx hb d_L_law_792 (by decide) ?_
    refine W.widen (k := 23 + (t + 1)) (n := 323 + 6 * (t + 1)) (by omega) (by omega) ?_
    exact ih ((n, (trs n 14 (0, cpy n po op, pr, pe, pm)).1, ki, ra, cpy n (fun _ => 0) po, cpy n (fun q => se q + po q) se, bc, bs, (trs n 14 (0, cpy n po op, pr, pe, pm)).2.1, (trs n 14 (0, cpy n po op, pr, pe, pm)).2.2.1, (trs n 14 (0, cpy n po op, pr, pe, pm)).2.2.2.1, (trs n 14 (0, cpy n po op, pr, pe, pm)).2.2.2.2)) ov 0 H locs ls (inv_st hv rfl) hP hD hS (lv_sub hl [1, 2, 3, 4, 0] rfl)
  · exact absurd rfl c1
set_option maxHeartbeats 4000000 in
set_option maxRecDepth 100000 in
theorem op_parties {p : Program} {l : Launch} {e : Env} {s : State} {m : MethodId} {below : List Frame} {meth : Method} {c : Code} {dC : Nat → ClassId} {dI : Nat → Nat → Nat} {b L : Nat} {xs : Nat → Int32} (hl0 : l.stackTraces = false) (hL : L ≤ 2560) (C0 : lw_At p s m meth c b L xs) (hX0 : xc_ok "ClearingBooks" cb_ks s) {cI cJ : ClassId} (hK : va_K (dC, dI) vwCl [(cI, .int), (cJ, .long)] s) {ad ad2 : Nat → Nat} {o : Nat} {t : Nat} {bb : ST} {ov : Nat → Int64} {cd : Nat} (hv : invS t bb) (ht : t < 512) (hi : 5 * t + 5 ≤ L) {H : Heap} {locs : List Loc} (hP : va_P (dC, dI) vwCl ((cbS ad cI cJ bb ++ [(o, .inl (cJ, 1, .inr (.inl ov)))]) ++ mdS ad2 cI cJ cd bb) H) (hD : va_D (fun q : Nat => s.heap.size ≤ q) ((cbS ad cI cJ bb ++ [(o, .inl (cJ, 1, .inr (.inl ov)))]) ++ mdS ad2 cI cJ cd bb)) (hS : va_S (fun q : Nat => s.heap.size ≤ q) s.heap H locs) {ls : Array Slot} (hl : lv_has ls 8 [(0, .ref b), (1, .ref (ad 0)), (2, .ref (ad2 0)), (3, .ref o), (4, .int (nI (5 * t)))]) (ih : ∀ (bb : ST) (ov : Nat → Int64) (cd : Nat) (H : Heap) (locs : List Loc) (ls : Array Slot), invS (t + 1) bb → va_P (dC, dI) vwCl ((cbS ad cI cJ bb ++ [(o, .inl (cJ, 1, .inr (.inl ov)))]) ++ mdS ad2 cI cJ cd bb) H → va_D (fun q : Nat => s.heap.size ≤ q) ((cbS ad cI cJ bb ++ [(o, .inl (cJ, 1, .inr (.inl ov)))]) ++ mdS ad2 cI cJ cd bb) → va_S (fun q : Nat => s.heap.size ≤ q) s.heap H locs → lv_has ls 8 [(0, .ref b), (1, .ref (ad 0)), (2, .ref (ad2 0)), (3, .ref o), (4, .int (nI (5 * t + 5)))] → W p l e room_1 s m #[Value.ref b] below meth c H locs (23 + (t + 1)) (323 + 6 * (t + 1)) (lw_Z below #[Value.ref b] s) (F0 m 23 ls [])) : W p l e room_1 s m #[Value.ref b] below meth c H locs (23 + t) (323 + 6 * t) (lw_Z below #[Value.ref b] s) (F0 m 763 ls []) := by
  obtain ⟨hx, hb, hr, hml, hown0, hts0, hX, hbl, hlocks, hgv⟩ := id C0
  have hts : ∀ w ∈ wAll, w.before #[Value.ref b] s = true := fun w h => hts0 w (wAll_tbl h)
  have hown : s.vm.findClass "ClearingBooksLaw" = some m.cls := hown0
  have hA : ∀ q : Nat, s.heap.size ≤ q → (fun q : Nat => s.heap.size ≤ q) q := fun _ h => h
  have hbA : ¬ (fun q : Nat => s.heap.size ≤ q) b := Nat.not_le.mpr hbl
  obtain ⟨n, tc, ki, ra, po, se, bc, bs, op, pr, pe, pm⟩ := bb
  have hv : inv t n tc ki ra po se := hv
  have hn := hv.2.1
  refine lv_aload_n hx hb d_L_law_763 rfl (lv_at hl 1 rfl) ?_
  refine ro_call (va_runV (As := []) (rest := []) ⟨hx, hb, hml, hown, hts⟩ (c_parties l dC dI ad cI cJ n tc ki ra po se bc bs op pr pe pm ) (cwV 0 hts (wAll_v kw_79 kw_80 kw_81 kw_1 kw_82) rfl rfl rfl (by decide +kernel) ⟨Nat.le_of_ble_eq_true rfl, Nat.le_of_ble_eq_true rfl⟩) (ro_preV bl_tt hK (P_l (P_l hP)) (ci := 0) (q0 := 0) rfl rfl (fun _ _ _ => trivial)) rfl rfl hl.1 rfl (lv_room (Nat.le_of_ble_eq_true rfl)) d_L_law_764 ⟨by show 23 + t + 0 ≤ 1056; omega, by show 323 + 6 * t + 0 ≤ 8569; omega⟩) ?_
  refine W.eq (g2 := F0 m 767 ls [.int (nI n)]) rfl ?_
  refine lv_aload_n hx hb d_L_law_767 rfl (lv_at hl 2 rfl) ?_
  refine mr_calli (va_runV (As := []) (rest := [.int (nI n)]) ⟨hx, hb, hml, hown, hts⟩ (m_parties l dC dI ad2 cI cJ cd n tc ki ra po se bc bs op pr pe pm _ ) (cwV 0 hts (wAll_v kw_368 kw_369 kw_370 kw_2 kw_371) rfl rfl rfl (by decide +kernel) ⟨Nat.le_of_ble_eq_true rfl, Nat.le_of_ble_eq_true rfl⟩) (mu_preV hK (P_r hP) (D_r hD) (ci := 1) (q0 := 0) rfl rfl) rfl rfl hl.1 rfl (lv_room (Nat.le_of_ble_eq_true rfl)) d_L_law_768 ⟨by show 23 + t + 0 ≤ 1056; omega, by show 323 + 6 * t + 0 ≤ 8569; omega⟩) hP hD hS hA (fun r9 H locs hq hP hD hS => ?_)
  rw [hq]
  have hP : va_P (dC, dI) vwCl ((cbS ad cI cJ ((n, tc, ki, ra, po, se, bc, bs, op, pr, pe, pm)) ++ [(o, .inl (cJ, 1, .inr (.inl ov)))]) ++ mdS ad2 cI cJ 0 ((n, tc, ki, ra, po, se, bc, bs, op, pr, pe, pm))) H := hP
  have hD : va_D (fun q : Nat => s.heap.size ≤ q) ((cbS ad cI cJ ((n, tc, ki, ra, po, se, bc, bs, op, pr, pe, pm)) ++ [(o, .inl (cJ, 1, .inr (.inl ov)))]) ++ mdS ad2 cI cJ 0 ((n, tc, ki, ra, po, se, bc, bs, op, pr, pe, pm))) := hD
  refine lv_icmp_eq (tgt := 789) hx hb d_L_law_771 (by decide) (fun c1 => ?_) (fun c1 => ?_)
  · replace c1 := (nI_eq (by omega) (by omega)).mp c1
    refine lv_iinc (v := nI (5 * t + 5)) (lv' := [(4, .int (nI (5 * t + 5))), (0, .ref b), (1, .ref (ad 0)), (2, .ref (ad2 0)), (3, .ref o)]) hx hb d_L_law_789 hl (k := 4) rfl (nI_add (5 * t) 5) (by decide) rfl (fun ls hl => ?_)
    refine lv_goto (tgt := 23) hx hb d_L_law_792 (by decide) ?_
    refine W.widen (k := 23 + (t + 1)) (n := 323 + 6 * (t + 1)) (by omega) (by omega) ?_
    exact ih ((n, tc, ki, ra, po, se, bc, bs, op, pr, pe, pm)) ov 0 H locs ls (inv_mono hv) hP hD hS (lv_sub hl [1, 2, 3, 4, 0] rfl)
  · replace c1 := mt (nI_eq (by omega) (by omega)).mpr c1
    exact absurd rfl c1
set_option maxHeartbeats 4000000 in
set_option maxRecDepth 100000 in
theorem op_audit {p : Program} {l : Launch} {e : Env} {s : State} {m : MethodId} {below : List Frame} {meth : Method} {c : Code} {dC : Nat → ClassId} {dI : Nat → Nat → Nat} {b L : Nat} {xs : Nat → Int32} (hl0 : l.stackTraces = false) (hL : L ≤ 2560) (C0 : lw_At p s m meth c b L xs) (hX0 : xc_ok "ClearingBooks" cb_ks s) {cI cJ : ClassId} (hK : va_K (dC, dI) vwCl [(cI, .int), (cJ, .long)] s) {ad ad2 : Nat → Nat} {o : Nat} {t : Nat} {bb : ST} {ov : Nat → Int64} {cd : Nat} (hv : invS t bb) (ht : t < 512) (hi : 5 * t + 5 ≤ L) {H : Heap} {locs : List Loc} (hP : va_P (dC, dI) vwCl ((cbS ad cI cJ bb ++ [(o, .inl (cJ, 1, .inr (.inl ov)))]) ++ mdS ad2 cI cJ cd bb) H) (hD : va_D (fun q : Nat => s.heap.size ≤ q) ((cbS ad cI cJ bb ++ [(o, .inl (cJ, 1, .inr (.inl ov)))]) ++ mdS ad2 cI cJ cd bb)) (hS : va_S (fun q : Nat => s.heap.size ≤ q) s.heap H locs) {ls : Array Slot} (hl : lv_has ls 8 [(0, .ref b), (1, .ref (ad 0)), (2, .ref (ad2 0)), (3, .ref o), (4, .int (nI (5 * t)))]) (ih : ∀ (bb : ST) (ov : Nat → Int64) (cd : Nat) (H : Heap) (locs : List Loc) (ls : Array Slot), invS (t + 1) bb → va_P (dC, dI) vwCl ((cbS ad cI cJ bb ++ [(o, .inl (cJ, 1, .inr (.inl ov)))]) ++ mdS ad2 cI cJ cd bb) H → va_D (fun q : Nat => s.heap.size ≤ q) ((cbS ad cI cJ bb ++ [(o, .inl (cJ, 1, .inr (.inl ov)))]) ++ mdS ad2 cI cJ cd bb) → va_S (fun q : Nat => s.heap.size ≤ q) s.heap H locs → lv_has ls 8 [(0, .ref b), (1, .ref (ad 0)), (2, .ref (ad2 0)), (3, .ref o), (4, .int (nI (5 * t + 5)))] → W p l e room_1 s m #[Value.ref b] below meth c H locs (23 + (t + 1)) (323 + 6 * (t + 1)) (lw_Z below #[Value.ref b] s) (F0 m 23 ls [])) : W p l e room_1 s m #[Value.ref b] below meth c H locs (23 + t) (323 + 6 * t) (lw_Z below #[Value.ref b] s) (F0 m 776 ls []) := by
  obtain ⟨hx, hb, hr, hml, hown0, hts0, hX, hbl, hlocks, hgv⟩ := id C0
  have hts : ∀ w ∈ wAll, w.before #[Value.ref b] s = true := fun w h => hts0 w (wAll_tbl h)
  have hown : s.vm.findClass "ClearingBooksLaw" = some m.cls := hown0
  have hA : ∀ q : Nat, s.heap.size ≤ q → (fun q : Nat => s.heap.size ≤ q) q := fun _ h => h
  have hbA : ¬ (fun q : Nat => s.heap.size ≤ q) b := Nat.not_le.mpr hbl
  obtain ⟨n, tc, ki, ra, po, se, bc, bs, op, pr, pe, pm⟩ := bb
  have hv : inv t n tc ki ra po se := hv
  have hn := hv.2.1
  refine lv_aload_n hx hb d_L_law_776 rfl (lv_at hl 1 rfl) ?_
  refine ro_call (va_runV (As := []) (rest := []) ⟨hx, hb, hml, hown, hts⟩ (c_audit l dC dI ad cI cJ n tc ki ra po se bc bs op pr pe pm hn) (cwV 0 hts (wAll_v kw_83 kw_84 kw_85 kw_1 kw_86) rfl rfl rfl (by decide +kernel) ⟨Nat.le_of_ble_eq_true rfl, Nat.le_of_ble_eq_true rfl⟩) (ro_preV bl_tt hK (P_l (P_l hP)) (ci := 0) (q0 := 0) rfl rfl (fun _ _ _ => trivial)) rfl rfl hl.1 rfl (lv_room (Nat.le_of_ble_eq_true rfl)) d_L_law_777 ⟨by show 23 + t + 0 ≤ 1056; omega, by show 323 + 6 * t + 0 ≤ 8569; omega⟩) ?_
  rw [show nI (zz (sm po n) 2 + zz (sm se n) 1) = nI 0 by rw [inv_sm hv, hv.2.2.2.2.2.2.2.2]; rfl]
  refine W.eq (g2 := F0 m 780 ls [.int (nI 0)]) rfl ?_
  refine lv_aload_n hx hb d_L_law_780 rfl (lv_at hl 2 rfl) ?_
  refine mr_calli (va_runV (As := []) (rest := [.int (nI 0)]) ⟨hx, hb, hml, hown, hts⟩ (m_audit l dC dI ad2 cI cJ cd n tc ki ra po se bc bs op pr pe pm _ ) (cwV 0 hts (wAll_v kw_372 kw_373 kw_374 kw_2 kw_375) rfl rfl rfl (by decide +kernel) ⟨Nat.le_of_ble_eq_true rfl, Nat.le_of_ble_eq_true rfl⟩) (mu_preV hK (P_r hP) (D_r hD) (ci := 1) (q0 := 0) rfl rfl) rfl rfl hl.1 rfl (lv_room (Nat.le_of_ble_eq_true rfl)) d_L_law_781 ⟨by show 23 + t + 0 ≤ 1056; omega, by show 323 + 6 * t + 0 ≤ 8569; omega⟩) hP hD hS hA (fun r9 H locs hq hP hD hS => ?_)
  rw [hq]
  have hP : va_P (dC, dI) vwCl ((cbS ad cI cJ ((n, tc, ki, ra, po, se, bc, bs, op, pr, pe, pm)) ++ [(o, .inl (cJ, 1, .inr (.inl ov)))]) ++ mdS ad2 cI cJ 0 ((n, tc, ki, ra, po, se, bc, bs, op, pr, pe, pm))) H := hP
  have hD : va_D (fun q : Nat => s.heap.size ≤ q) ((cbS ad cI cJ ((n, tc, ki, ra, po, se, bc, bs, op, pr, pe, pm)) ++ [(o, .inl (cJ, 1, .inr (.inl ov)))]) ++ mdS ad2 cI cJ 0 ((n, tc, ki, ra, po, se, bc, bs, op, pr, pe, pm))) := hD
  refine lv_icmp_eq (tgt := 789) hx hb d_L_law_784 (by decide) (fun c1 => ?_) (fun c1 => ?_)
  · replace c1 := (nI_eq (by omega) (by omega)).mp c1
    refine lv_iinc (v := nI (5 * t + 5)) (lv' := [(4, .int (nI (5 * t + 5))), (0, .ref b), (1, .ref (ad 0)), (2, .ref (ad2 0)), (3, .ref o)]) hx hb d_L_law_789 hl (k := 4) rfl (nI_add (5 * t) 5) (by decide) rfl (fun ls hl => ?_)
    refine lv_goto (tgt := 23) hx hb d_L_law_792 (by decide) ?_
    refine W.widen (k := 23 + (t + 1)) (n := 323 + 6 * (t + 1)) (by omega) (by omega) ?_
    exact ih ((n, tc, ki, ra, po, se, bc, bs, op, pr, pe, pm)) ov 0 H locs ls (inv_mono hv) hP hD hS (lv_sub hl [1, 2, 3, 4, 0] rfl)
  · replace c1 := mt (nI_eq (by omega) (by omega)).mpr c1
    exact absurd rfl c1
set_option maxHeartbeats 4000000 in
set_option maxRecDepth 100000 in
theorem op_none {p : Program} {l : Launch} {e : Env} {s : State} {m : MethodId} {below : List Frame} {meth : Method} {c : Code} {dC : Nat → ClassId} {dI : Nat → Nat → Nat} {b L : Nat} {xs : Nat → Int32} (hl0 : l.stackTraces = false) (hL : L ≤ 2560) (C0 : lw_At p s m meth c b L xs) (hX0 : xc_ok "ClearingBooks" cb_ks s) {cI cJ : ClassId} (hK : va_K (dC, dI) vwCl [(cI, .int), (cJ, .long)] s) {ad ad2 : Nat → Nat} {o : Nat} {t : Nat} {bb : ST} {ov : Nat → Int64} {cd : Nat} (hv : invS t bb) (ht : t < 512) (hi : 5 * t + 5 ≤ L) {H : Heap} {locs : List Loc} (hP : va_P (dC, dI) vwCl ((cbS ad cI cJ bb ++ [(o, .inl (cJ, 1, .inr (.inl ov)))]) ++ mdS ad2 cI cJ cd bb) H) (hD : va_D (fun q : Nat => s.heap.size ≤ q) ((cbS ad cI cJ bb ++ [(o, .inl (cJ, 1, .inr (.inl ov)))]) ++ mdS ad2 cI cJ cd bb)) (hS : va_S (fun q : Nat => s.heap.size ≤ q) s.heap H locs) {ls : Array Slot} (hl : lv_has ls 8 [(0, .ref b), (1, .ref (ad 0)), (2, .ref (ad2 0)), (3, .ref o), (4, .int (nI (5 * t)))]) (ih : ∀ (bb : ST) (ov : Nat → Int64) (cd : Nat) (H : Heap) (locs : List Loc) (ls : Array Slot), invS (t + 1) bb → va_P (dC, dI) vwCl ((cbS ad cI cJ bb ++ [(o, .inl (cJ, 1, .inr (.inl ov)))]) ++ mdS ad2 cI cJ cd bb) H → va_D (fun q : Nat => s.heap.size ≤ q) ((cbS ad cI cJ bb ++ [(o, .inl (cJ, 1, .inr (.inl ov)))]) ++ mdS ad2 cI cJ cd bb) → va_S (fun q : Nat => s.heap.size ≤ q) s.heap H locs → lv_has ls 8 [(0, .ref b), (1, .ref (ad 0)), (2, .ref (ad2 0)), (3, .ref o), (4, .int (nI (5 * t + 5)))] → W p l e room_1 s m #[Value.ref b] below meth c H locs (23 + (t + 1)) (323 + 6 * (t + 1)) (lw_Z below #[Value.ref b] s) (F0 m 23 ls [])) : W p l e room_1 s m #[Value.ref b] below meth c H locs (23 + t) (323 + 6 * t) (lw_Z below #[Value.ref b] s) (F0 m 789 ls []) := by
  obtain ⟨hx, hb, hr, hml, hown0, hts0, hX, hbl, hlocks, hgv⟩ := id C0
  have hts : ∀ w ∈ wAll, w.before #[Value.ref b] s = true := fun w h => hts0 w (wAll_tbl h)
  have hown : s.vm.findClass "ClearingBooksLaw" = some m.cls := hown0
  have hA : ∀ q : Nat, s.heap.size ≤ q → (fun q : Nat => s.heap.size ≤ q) q := fun _ h => h
  have hbA : ¬ (fun q : Nat => s.heap.size ≤ q) b := Nat.not_le.mpr hbl
  refine lv_iinc (v := nI (5 * t + 5)) (lv' := [(4, .int (nI (5 * t + 5))), (0, .ref b), (1, .ref (ad 0)), (2, .ref (ad2 0)), (3, .ref o)]) hx hb d_L_law_789 hl (k := 4) rfl (nI_add (5 * t) 5) (by decide) rfl (fun ls hl => ?_)
  refine lv_goto (tgt := 23) hx hb d_L_law_792 (by decide) ?_
  refine W.widen (k := 23 + (t + 1)) (n := 323 + 6 * (t + 1)) (by omega) (by omega) ?_
  exact ih bb ov cd H locs ls (inv_mono hv) hP hD hS (lv_sub hl [1, 2, 3, 4, 0] rfl)
