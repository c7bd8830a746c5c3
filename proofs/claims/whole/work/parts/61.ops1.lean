set_option maxHeartbeats 4000000 in
set_option maxRecDepth 100000 in
theorem op_acquirer {p : Program} {l : Launch} {e : Env} {s : State} {m : MethodId} {below : List Frame} {meth : Method} {c : Code} {dC : Nat → ClassId} {dI : Nat → Nat → Nat} {b L : Nat} {xs : Nat → Int32} (hl0 : l.stackTraces = false) (hL : L ≤ 2560) (C0 : lw_At p s m meth c b L xs) (hX0 : xc_ok "ClearingBooks" cb_ks s) {cI cJ : ClassId} (hK : va_K (dC, dI) vwCl [(cI, .int), (cJ, .long)] s) {ad ad2 : Nat → Nat} {o : Nat} {t : Nat} {bb : ST} {ov : Nat → Int64} {cd : Nat} (hv : invS t bb) (ht : t < 512) (hi : 5 * t + 5 ≤ L) {H : Heap} {locs : List Loc} (hP : va_P (dC, dI) vwCl ((cbS ad cI cJ bb ++ [(o, .inl (cJ, 1, .inr (.inl ov)))]) ++ mdS ad2 cI cJ cd bb) H) (hD : va_D (fun q : Nat => s.heap.size ≤ q) ((cbS ad cI cJ bb ++ [(o, .inl (cJ, 1, .inr (.inl ov)))]) ++ mdS ad2 cI cJ cd bb)) (hS : va_S (fun q : Nat => s.heap.size ≤ q) s.heap H locs) {ls : Array Slot} (hl : lv_has ls 8 [(0, .ref b), (1, .ref (ad 0)), (2, .ref (ad2 0)), (3, .ref o), (4, .int (nI (5 * t)))]) (ih : ∀ (bb : ST) (ov : Nat → Int64) (cd : Nat) (H : Heap) (locs : List Loc) (ls : Array Slot), invS (t + 1) bb → va_P (dC, dI) vwCl ((cbS ad cI cJ bb ++ [(o, .inl (cJ, 1, .inr (.inl ov)))]) ++ mdS ad2 cI cJ cd bb) H → va_D (fun q : Nat => s.heap.size ≤ q) ((cbS ad cI cJ bb ++ [(o, .inl (cJ, 1, .inr (.inl ov)))]) ++ mdS ad2 cI cJ cd bb) → va_S (fun q : Nat => s.heap.size ≤ q) s.heap H locs → lv_has ls 8 [(0, .ref b), (1, .ref (ad 0)), (2, .ref (ad2 0)), (3, .ref o), (4, .int (nI (5 * t + 5)))] → W p l e room_1 s m #[Value.ref b] below meth c H locs (23 + (t + 1)) (323 + 6 * (t + 1)) (lw_Z below #[Value.ref b] s) (F0 m 23 ls [])) : W p l e room_1 s m #[Value.ref b] below meth c H locs (23 + t) (323 + 6 * t) (lw_Z below #[Value.ref b] s) (F0 m 96 ls []) := by
  obtain ⟨hx, hb, hr, hml, hown0, hts0, hX, hbl, hlocks, hgv⟩ := id C0
  have hts : ∀ w ∈ wAll, w.before #[Value.ref b] s = true := fun w h => hts0 w (wAll_tbl h)
  have hown : s.vm.findClass "ClearingBooksLaw" = some m.cls := hown0
  have hA : ∀ q : Nat, s.heap.size ≤ q → (fun q : Nat => s.heap.size ≤ q) q := fun _ h => h
  have hbA : ¬ (fun q : Nat => s.heap.size ≤ q) b := Nat.not_le.mpr hbl
  obtain ⟨k, z1, ov1, b1, hk, hw, hm, heq, hv1⟩ := s_acquirer l hl0 dC dI ad ad2 cI cJ o ov cd t bb hv ht (xs (5 * t + 1))
  refine lv_aload_n hx hb d_L_law_96 rfl (lv_at hl 1 rfl) ?_
  refine lv_aload_n hx hb d_L_law_97 rfl (lv_at hl 0 rfl) ?_
  refine lv_iload hx hb d_L_law_98 (lv_at hl 4 rfl) ?_
  refine lv_iconst (v := nI 1) hx hb d_L_law_100 (by decide) ?_
  refine t_iadd hx hb d_L_law_101 (v := nI ((5 * t) + 1)) (nI_add (5 * t) 1) ?_
  refine xa_sld hx hb hX hbl hbA hS (j := (5 * t) + 1) (by omega) (by omega) d_L_law_102 ?_
  refine lv_aload_n hx hb d_L_law_103 rfl (lv_at hl 3 rfl) ?_
  refine ml_calli (xw_runS (n := 3) (As := [.ref (ad 0), .int (xs ((5 * t) + 1)), .ref o]) (rest := []) ⟨hx, hb, hml, hown, hts⟩ (hw _) kw_93 kw_91 kw_92 kw_0 rfl rfl (by decide +kernel) ⟨Nat.le_of_ble_eq_true rfl, Nat.le_of_ble_eq_true rfl⟩ (mx_preS hK (P_l hP) (D_l hD) (fun U hU hW => xc_moved hX0 hW (fun q hq => by rw [hU]; exact hS.2.1 q hq (Nat.not_le.mpr hq)))) rfl rfl hl.1 rfl (lv_room (Nat.le_of_ble_eq_true rfl)) d_L_law_104 ⟨by show 23 + t + 1 ≤ 1056; omega, by show 323 + 6 * t + 6 ≤ 8569; omega⟩) hP hD hS hA (fun r9 H locs hq hP hD hS => ?_)
  rw [hq]
  have hP : va_P (dC, dI) vwCl ((cbS ad cI cJ b1 ++ [(o, .inl (cJ, 1, .inr (.inl ov1)))]) ++ mdS ad2 cI cJ cd bb) H := hP
  have hD : va_D (fun q : Nat => s.heap.size ≤ q) ((cbS ad cI cJ b1 ++ [(o, .inl (cJ, 1, .inr (.inl ov1)))]) ++ mdS ad2 cI cJ cd bb) := hD
  refine lv_istore (lv' := [(5, .int (nI k)), (0, .ref b), (1, .ref (ad 0)), (2, .ref (ad2 0)), (3, .ref o), (4, .int (nI (5 * t)))]) hx hb d_L_law_107 hl (by decide) rfl (fun ls hl => ?_)
  refine lv_aload_n hx hb d_L_law_109 rfl (lv_at hl 3 rfl) ?_
  refine lv_aload_n hx hb d_L_law_110 rfl (lv_at hl 1 rfl) ?_
  refine lv_iload hx hb d_L_law_111 (lv_at hl 5 rfl) ?_
  refine lv_iconst (v := nI 1) hx hb d_L_law_113 (by decide) ?_
  refine t_iadd hx hb d_L_law_114 (v := nI ((5 * t) + 1)) (nI_add (5 * t) 1) ?_
  refine xa_sld hx hb hX hbl hbA hS (j := (5 * t) + 1) (by omega) (by omega) d_L_law_115 ?_
  refine mr_calli (va_runV (As := [.int (xs ((5 * t) + 1))]) (rest := []) ⟨hx, hb, hml, hown, hts⟩ (hm _) (cwV 1 hts (wAll_v kw_317 kw_318 kw_319 kw_2 kw_320) rfl rfl rfl (by decide +kernel) ⟨Nat.le_of_ble_eq_true rfl, Nat.le_of_ble_eq_true rfl⟩) (mu_preV hK (P_r hP) (D_r hD) (ci := 1) (q0 := 0) rfl rfl) rfl rfl hl.1 rfl (lv_room (Nat.le_of_ble_eq_true rfl)) d_L_law_116 ⟨by show 23 + t + 1 + 0 ≤ 1056; omega, by show 323 + 6 * t + 6 + 0 ≤ 8569; omega⟩) hP hD hS hA (fun r9 H locs hq hP hD hS => ?_)
  rw [hq]
  have hP : va_P (dC, dI) vwCl ((cbS ad cI cJ b1 ++ [(o, .inl (cJ, 1, .inr (.inl ov1)))]) ++ mdS ad2 cI cJ k b1) H := hP
  have hD : va_D (fun q : Nat => s.heap.size ≤ q) ((cbS ad cI cJ b1 ++ [(o, .inl (cJ, 1, .inr (.inl ov1)))]) ++ mdS ad2 cI cJ k b1) := hD
  refine lv_istore (lv' := [(6, .int z1), (5, .int (nI k)), (0, .ref b), (1, .ref (ad 0)), (2, .ref (ad2 0)), (3, .ref o), (4, .int (nI (5 * t)))]) hx hb d_L_law_119 hl (by decide) rfl (fun ls hl => ?_)
  refine lv_aload_n hx hb d_L_law_121 rfl (lv_at hl 4 rfl) ?_
  refine ro_call (va_runV (As := []) (rest := []) ⟨hx, hb, hml, hown, hts⟩ (m_thrown l dC dI ad2 cI cJ k b1.1 b1.2.1 b1.2.2.1 b1.2.2.2.1 b1.2.2.2.2.1 b1.2.2.2.2.2.1 b1.2.2.2.2.2.2.1 b1.2.2.2.2.2.2.2.1 b1.2.2.2.2.2.2.2.2.1 b1.2.2.2.2.2.2.2.2.2.1 b1.2.2.2.2.2.2.2.2.2.2.1 b1.2.2.2.2.2.2.2.2.2.2.2) (cwV 0 hts (wAll_v kw_313 kw_314 kw_315 kw_2 kw_316) rfl rfl rfl (by decide +kernel) ⟨Nat.le_of_ble_eq_true rfl, Nat.le_of_ble_eq_true rfl⟩) (ro_preV bl_tt hK (P_r hP) (ci := 1) (q0 := 0) rfl rfl (fun _ _ _ => trivial)) rfl rfl hl.1 rfl (lv_room (Nat.le_of_ble_eq_true rfl)) d_L_law_122 ⟨by show 23 + t + 1 + 0 ≤ 1056; omega, by show 323 + 6 * t + 6 + 0 ≤ 8569; omega⟩) ?_
  refine W.eq (g2 := F0 m 125 ls [.int (nI k)]) rfl ?_
  refine lv_iload hx hb d_L_law_125 (lv_at hl 1 rfl) ?_
  refine lv_icmp_eq (tgt := 132) hx hb d_L_law_127 (by decide) (fun c1 => ?_) (fun c1 => ?_)
  · replace c1 := (nI_eq (by omega) (by omega)).mp c1
    refine lv_iload hx hb d_L_law_132 (lv_at hl 1 rfl) ?_
    refine lv_if_ne (tgt := 149) hx hb d_L_law_134 (by decide) (fun c2 => ?_) (fun c2 => ?_)
    · refine lv_goto (tgt := 789) hx hb d_L_law_149 (by decide) ?_
      refine lv_iinc (v := nI (5 * t + 5)) (lv' := [(4, .int (nI (5 * t + 5))), (6, .int z1), (5, .int (nI k)), (0, .ref b), (1, .ref (ad 0)), (2, .ref (ad2 0)), (3, .ref o)]) hx hb d_L_law_789 hl (k := 6) rfl (nI_add (5 * t) 5) (by decide) rfl (fun ls hl => ?_)
      refine lv_goto (tgt := 23) hx hb d_L_law_792 (by decide) ?_
      refine W.widen (k := 23 + (t + 1)) (n := 323 + 6 * (t + 1)) (by omega) (by omega) ?_
      exact ih b1 ov1 k H locs ls hv1 hP hD hS (lv_sub hl [3, 4, 5, 6, 0] rfl)
    · have e5 := heq (k_z hk c2)
      refine lv_aload_n hx hb d_L_law_137 rfl (lv_at hl 5 rfl) ?_
      refine lv_iconst (v := nI 0) hx hb d_L_law_138 (by decide) ?_
      refine xa_laload (f := ov1) hx hb hK hP 11 1 rfl rfl (j := 0) (by omega) (by decide) d_L_law_139 ?_
      refine lv_iload hx hb d_L_law_140 (lv_at hl 0 rfl) ?_
      refine lv_i2l (v := z1.toInt64) hx hb d_L_law_142 rfl ?_
      refine W.lcmp hx hb d_L_law_143 ?_
      refine lv_if_eq (tgt := 149) hx hb d_L_law_144 (by decide) (fun c3 => ?_) (fun c3 => ?_)
      · replace c3 := (lg_cmp_eq _ _).mp c3
        refine lv_goto (tgt := 789) hx hb d_L_law_149 (by decide) ?_
        refine lv_iinc (v := nI (5 * t + 5)) (lv' := [(4, .int (nI (5 * t + 5))), (6, .int z1), (5, .int (nI k)), (0, .ref b), (1, .ref (ad 0)), (2, .ref (ad2 0)), (3, .ref o)]) hx hb d_L_law_789 hl (k := 6) rfl (nI_add (5 * t) 5) (by decide) rfl (fun ls hl => ?_)
        refine lv_goto (tgt := 23) hx hb d_L_law_792 (by decide) ?_
        refine W.widen (k := 23 + (t + 1)) (n := 323 + 6 * (t + 1)) (by omega) (by omega) ?_
        exact ih b1 ov1 k H locs ls hv1 hP hD hS (lv_sub hl [3, 4, 5, 6, 0] rfl)
      · replace c3 := mt (lg_cmp_eq _ _).mpr c3
        exact absurd e5 c3
  · replace c1 := mt (nI_eq (by omega) (by omega)).mpr c1
    exact absurd rfl c1
set_option maxHeartbeats 4000000 in
set_option maxRecDepth 100000 in
theorem op_issuer {p : Program} {l : Launch} {e : Env} {s : State} {m : MethodId} {below : List Frame} {meth : Method} {c : Code} {dC : Nat → ClassId} {dI : Nat → Nat → Nat} {b L : Nat} {xs : Nat → Int32} (hl0 : l.stackTraces = false) (hL : L ≤ 2560) (C0 : lw_At p s m meth c b L xs) (hX0 : xc_ok "ClearingBooks" cb_ks s) {cI cJ : ClassId} (hK : va_K (dC, dI) vwCl [(cI, .int), (cJ, .long)] s) {ad ad2 : Nat → Nat} {o : Nat} {t : Nat} {bb : ST} {ov : Nat → Int64} {cd : Nat} (hv : invS t bb) (ht : t < 512) (hi : 5 * t + 5 ≤ L) {H : Heap} {locs : List Loc} (hP : va_P (dC, dI) vwCl ((cbS ad cI cJ bb ++ [(o, .inl (cJ, 1, .inr (.inl ov)))]) ++ mdS ad2 cI cJ cd bb) H) (hD : va_D (fun q : Nat => s.heap.size ≤ q) ((cbS ad cI cJ bb ++ [(o, .inl (cJ, 1, .inr (.inl ov)))]) ++ mdS ad2 cI cJ cd bb)) (hS : va_S (fun q : Nat => s.heap.size ≤ q) s.heap H locs) {ls : Array Slot} (hl : lv_has ls 8 [(0, .ref b), (1, .ref (ad 0)), (2, .ref (ad2 0)), (3, .ref o), (4, .int (nI (5 * t)))]) (ih : ∀ (bb : ST) (ov : Nat → Int64) (cd : Nat) (H : Heap) (locs : List Loc) (ls : Array Slot), invS (t + 1) bb → va_P (dC, dI) vwCl ((cbS ad cI cJ bb ++ [(o, .inl (cJ, 1, .inr (.inl ov)))]) ++ mdS ad2 cI cJ cd bb) H → va_D (fun q : Nat => s.heap.size ≤ q) ((cbS ad cI cJ bb ++ [(o, .inl (cJ, 1, .inr (.inl ov)))]) ++ mdS ad2 cI cJ cd bb) → va_S (fun q : Nat => s.heap.size ≤ q) s.heap H locs → lv_has ls 8 [(0, .ref b), (1, .ref (ad 0)), (2, .ref (ad2 0)), (3, .ref o), (4, .int (nI (5 * t + 5)))] → W p l e room_1 s m #[Value.ref b] below meth c H locs (23 + (t + 1)) (323 + 6 * (t + 1)) (lw_Z below #[Value.ref b] s) (F0 m 23 ls [])) : W p l e room_1 s m #[Value.ref b] below meth c H locs (23 + t) (323 + 6 * t) (lw_Z below #[Value.ref b] s) (F0 m 152 ls []) := by
  obtain ⟨hx, hb, hr, hml, hown0, hts0, hX, hbl, hlocks, hgv⟩ := id C0
  have hts : ∀ w ∈ wAll, w.before #[Value.ref b] s = true := fun w h => hts0 w (wAll_tbl h)
  have hown : s.vm.findClass "ClearingBooksLaw" = some m.cls := hown0
  have hA : ∀ q : Nat, s.heap.size ≤ q → (fun q : Nat => s.heap.size ≤ q) q := fun _ h => h
  have hbA : ¬ (fun q : Nat => s.heap.size ≤ q) b := Nat.not_le.mpr hbl
  obtain ⟨k, z1, ov1, b1, hk, hw, hm, heq, hv1⟩ := s_issuer l hl0 dC dI ad ad2 cI cJ o ov cd t bb hv ht (xs (5 * t + 1))
  refine lv_aload_n hx hb d_L_law_152 rfl (lv_at hl 1 rfl) ?_
  refine lv_aload_n hx hb d_L_law_153 rfl (lv_at hl 0 rfl) ?_
  refine lv_iload hx hb d_L_law_154 (lv_at hl 4 rfl) ?_
  refine lv_iconst (v := nI 1) hx hb d_L_law_156 (by decide) ?_
  refine t_iadd hx hb d_L_law_157 (v := nI ((5 * t) + 1)) (nI_add (5 * t) 1) ?_
  refine xa_sld hx hb hX hbl hbA hS (j := (5 * t) + 1) (by omega) (by omega) d_L_law_158 ?_
  refine lv_aload_n hx hb d_L_law_159 rfl (lv_at hl 3 rfl) ?_
  refine ml_calli (xw_runS (n := 3) (As := [.ref (ad 0), .int (xs ((5 * t) + 1)), .ref o]) (rest := []) ⟨hx, hb, hml, hown, hts⟩ (hw _) kw_189 kw_187 kw_188 kw_0 rfl rfl (by decide +kernel) ⟨Nat.le_of_ble_eq_true rfl, Nat.le_of_ble_eq_true rfl⟩ (mx_preS hK (P_l hP) (D_l hD) (fun U hU hW => xc_moved hX0 hW (fun q hq => by rw [hU]; exact hS.2.1 q hq (Nat.not_le.mpr hq)))) rfl rfl hl.1 rfl (lv_room (Nat.le_of_ble_eq_true rfl)) d_L_law_160 ⟨by show 23 + t + 1 ≤ 1056; omega, by show 323 + 6 * t + 6 ≤ 8569; omega⟩) hP hD hS hA (fun r9 H locs hq hP hD hS => ?_)
  rw [hq]
  have hP : va_P (dC, dI) vwCl ((cbS ad cI cJ b1 ++ [(o, .inl (cJ, 1, .inr (.inl ov1)))]) ++ mdS ad2 cI cJ cd bb) H := hP
  have hD : va_D (fun q : Nat => s.heap.size ≤ q) ((cbS ad cI cJ b1 ++ [(o, .inl (cJ, 1, .inr (.inl ov1)))]) ++ mdS ad2 cI cJ cd bb) := hD
  refine lv_istore (lv' := [(5, .int (nI k)), (0, .ref b), (1, .ref (ad 0)), (2, .ref (ad2 0)), (3, .ref o), (4, .int (nI (5 * t)))]) hx hb d_L_law_163 hl (by decide) rfl (fun ls hl => ?_)
  refine lv_aload_n hx hb d_L_law_165 rfl (lv_at hl 3 rfl) ?_
  refine lv_aload_n hx hb d_L_law_166 rfl (lv_at hl 1 rfl) ?_
  refine lv_iload hx hb d_L_law_167 (lv_at hl 5 rfl) ?_
  refine lv_iconst (v := nI 1) hx hb d_L_law_169 (by decide) ?_
  refine t_iadd hx hb d_L_law_170 (v := nI ((5 * t) + 1)) (nI_add (5 * t) 1) ?_
  refine xa_sld hx hb hX hbl hbA hS (j := (5 * t) + 1) (by omega) (by omega) d_L_law_171 ?_
  refine mr_calli (va_runV (As := [.int (xs ((5 * t) + 1))]) (rest := []) ⟨hx, hb, hml, hown, hts⟩ (hm _) (cwV 1 hts (wAll_v kw_325 kw_326 kw_327 kw_2 kw_328) rfl rfl rfl (by decide +kernel) ⟨Nat.le_of_ble_eq_true rfl, Nat.le_of_ble_eq_true rfl⟩) (mu_preV hK (P_r hP) (D_r hD) (ci := 1) (q0 := 0) rfl rfl) rfl rfl hl.1 rfl (lv_room (Nat.le_of_ble_eq_true rfl)) d_L_law_172 ⟨by show 23 + t + 1 + 0 ≤ 1056; omega, by show 323 + 6 * t + 6 + 0 ≤ 8569; omega⟩) hP hD hS hA (fun r9 H locs hq hP hD hS => ?_)
  rw [hq]
  have hP : va_P (dC, dI) vwCl ((cbS ad cI cJ b1 ++ [(o, .inl (cJ, 1, .inr (.inl ov1)))]) ++ mdS ad2 cI cJ k b1) H := hP
  have hD : va_D (fun q : Nat => s.heap.size ≤ q) ((cbS ad cI cJ b1 ++ [(o, .inl (cJ, 1, .inr (.inl ov1)))]) ++ mdS ad2 cI cJ k b1) := hD
  refine lv_istore (lv' := [(6, .int z1), (5, .int (nI k)), (0, .ref b), (1, .ref (ad 0)), (2, .ref (ad2 0)), (3, .ref o), (4, .int (nI (5 * t)))]) hx hb d_L_law_175 hl (by decide) rfl (fun ls hl => ?_)
  refine lv_aload_n hx hb d_L_law_177 rfl (lv_at hl 4 rfl) ?_
  refine ro_call (va_runV (As := []) (rest := []) ⟨hx, hb, hml, hown, hts⟩ (m_thrown l dC dI ad2 cI cJ k b1.1 b1.2.1 b1.2.2.1 b1.2.2.2.1 b1.2.2.2.2.1 b1.2.2.2.2.2.1 b1.2.2.2.2.2.2.1 b1.2.2.2.2.2.2.2.1 b1.2.2.2.2.2.2.2.2.1 b1.2.2.2.2.2.2.2.2.2.1 b1.2.2.2.2.2.2.2.2.2.2.1 b1.2.2.2.2.2.2.2.2.2.2.2) (cwV 0 hts (wAll_v kw_313 kw_314 kw_315 kw_2 kw_316) rfl rfl rfl (by decide +kernel) ⟨Nat.le_of_ble_eq_true rfl, Nat.le_of_ble_eq_true rfl⟩) (ro_preV bl_tt hK (P_r hP) (ci := 1) (q0 := 0) rfl rfl (fun _ _ _ => trivial)) rfl rfl hl.1 rfl (lv_room (Nat.le_of_ble_eq_true rfl)) d_L_law_178 ⟨by show 23 + t + 1 + 0 ≤ 1056; omega, by show 323 + 6 * t + 6 + 0 ≤ 8569; omega⟩) ?_
  refine W.eq (g2 := F0 m 181 ls [.int (nI k)]) rfl ?_
  refine lv_iload hx hb d_L_law_181 (lv_at hl 1 rfl) ?_
  refine lv_icmp_eq (tgt := 188) hx hb d_L_law_183 (by decide) (fun c1 => ?_) (fun c1 => ?_)
  · replace c1 := (nI_eq (by omega) (by omega)).mp c1
    refine lv_iload hx hb d_L_law_188 (lv_at hl 1 rfl) ?_
    refine lv_if_ne (tgt := 205) hx hb d_L_law_190 (by decide) (fun c2 => ?_) (fun c2 => ?_)
    · refine lv_goto (tgt := 789) hx hb d_L_law_205 (by decide) ?_
      refine lv_iinc (v := nI (5 * t + 5)) (lv' := [(4, .int (nI (5 * t + 5))), (6, .int z1), (5, .int (nI k)), (0, .ref b), (1, .ref (ad 0)), (2, .ref (ad2 0)), (3, .ref o)]) hx hb d_L_law_789 hl (k := 6) rfl (nI_add (5 * t) 5) (by decide) rfl (fun ls hl => ?_)
      refine lv_goto (tgt := 23) hx hb d_L_law_792 (by decide) ?_
      refine W.widen (k := 23 + (t + 1)) (n := 323 + 6 * (t + 1)) (by omega) (by omega) ?_
      exact ih b1 ov1 k H locs ls hv1 hP hD hS (lv_sub hl [3, 4, 5, 6, 0] rfl)
    · have e5 := heq (k_z hk c2)
      refine lv_aload_n hx hb d_L_law_193 rfl (lv_at hl 5 rfl) ?_
      refine lv_iconst (v := nI 0) hx hb d_L_law_194 (by decide) ?_
      refine xa_laload (f := ov1) hx hb hK hP 11 1 rfl rfl (j := 0) (by omega) (by decide) d_L_law_195 ?_
      refine lv_iload hx hb d_L_law_196 (lv_at hl 0 rfl) ?_
      refine lv_i2l (v := z1.toInt64) hx hb d_L_law_198 rfl ?_
      refine W.lcmp hx hb d_L_law_199 ?_
      refine lv_if_eq (tgt := 205) hx hb d_L_law_200 (by decide) (fun c3 => ?_) (fun c3 => ?_)
      · replace c3 := (lg_cmp_eq _ _).mp c3
        refine lv_goto (tgt := 789) hx hb d_L_law_205 (by decide) ?_
        refine lv_iinc (v := nI (5 * t + 5)) (lv' := [(4, .int (nI (5 * t + 5))), (6, .int z1), (5, .int (nI k)), (0, .ref b), (1, .ref (ad 0)), (2, .ref (ad2 0)), (3, .ref o)]) hx hb d_L_law_789 hl (k := 6) rfl (nI_add (5 * t) 5) (by decide) rfl (fun ls hl => ?_)
        refine lv_goto (tgt := 23) hx hb d_L_law_792 (by decide) ?_
        refine W.widen (k := 23 + (t + 1)) (n := 323 + 6 * (t + 1)) (by omega) (by omega) ?_
        exact ih b1 ov1 k H locs ls hv1 hP hD hS (lv_sub hl [3, 4, 5, 6, 0] rfl)
      · replace c3 := mt (lg_cmp_eq _ _).mpr c3
        exact absurd e5 c3
  · replace c1 := mt (nI_eq (by omega) (by omega)).mpr c1
    exact absurd rfl c1
set_option maxHeartbeats 4000000 in
set_option maxRecDepth 100000 in
theorem op_clear {p : Program} {l : Launch} {e : Env} {s : State} {m : MethodId} {below : List Frame} {meth : Method} {c : Code} {dC : Nat → ClassId} {dI : Nat → Nat → Nat} {b L : Nat} {xs : Nat → Int32} (hl0 : l.stackTraces = false) (hL : L ≤ 2560) (C0 : lw_At p s m meth c b L xs) (hX0 : xc_ok "ClearingBooks" cb_ks s) {cI cJ : ClassId} (hK : va_K (dC, dI) vwCl [(cI, .int), (cJ, .long)] s) {ad ad2 : Nat → Nat} {o : Nat} {t : Nat} {bb : ST} {ov : Nat → Int64} {cd : Nat} (hv : invS t bb) (ht : t < 512) (hi : 5 * t + 5 ≤ L) {H : Heap} {locs : List Loc} (hP : va_P (dC, dI) vwCl ((cbS ad cI cJ bb ++ [(o, .inl (cJ, 1, .inr (.inl ov)))]) ++ mdS ad2 cI cJ cd bb) H) (hD : va_D (fun q : Nat => s.heap.size ≤ q) ((cbS ad cI cJ bb ++ [(o, .inl (cJ, 1, .inr (.inl ov)))]) ++ mdS ad2 cI cJ cd bb)) (hS : va_S (fun q : Nat => s.heap.size ≤ q) s.heap H locs) {ls : Array Slot} (hl : lv_has ls 8 [(0, .ref b), (1, .ref (ad 0)), (2, .ref (ad2 0)), (3, .ref o), (4, .int (nI (5 * t)))]) (ih : ∀ (bb : ST) (ov : Nat → Int64) (cd : Nat) (H : Heap) (locs : List Loc) (ls : Array Slot), invS (t + 1) bb → va_P (dC, dI) vwCl ((cbS ad cI cJ bb ++ [(o, .inl (cJ, 1, .inr (.inl ov)))]) ++ mdS ad2 cI cJ cd bb) H → va_D (fun q : Nat => s.heap.size ≤ q) ((cbS ad cI cJ bb ++ [(o, .inl (cJ, 1, .inr (.inl ov)))]) ++ mdS ad2 cI cJ cd bb) → va_S (fun q : Nat => s.heap.size ≤ q) s.heap H locs → lv_has ls 8 [(0, .ref b), (1, .ref (ad 0)), (2, .ref (ad2 0)), (3, .ref o), (4, .int (nI (5 * t + 5)))] → W p l e room_1 s m #[Value.ref b] below meth c H locs (23 + (t + 1)) (323 + 6 * (t + 1)) (lw_Z below #[Value.ref b] s) (F0 m 23 ls [])) : W p l e room_1 s m #[Value.ref b] below meth c H locs (23 + t) (323 + 6 * t) (lw_Z below #[Value.ref b] s) (F0 m 208 ls []) := by
  obtain ⟨hx, hb, hr, hml, hown0, hts0, hX, hbl, hlocks, hgv⟩ := id C0
  have hts : ∀ w ∈ wAll, w.before #[Value.ref b] s = true := fun w h => hts0 w (wAll_tbl h)
  have hown : s.vm.findClass "ClearingBooksLaw" = some m.cls := hown0
  have hA : ∀ q : Nat, s.heap.size ≤ q → (fun q : Nat => s.heap.size ≤ q) q := fun _ h => h
  have hbA : ¬ (fun q : Nat => s.heap.size ≤ q) b := Nat.not_le.mpr hbl
  obtain ⟨k, z1, ov1, b1, hk, hw, hm, heq, hv1⟩ := s_clear l hl0 dC dI ad ad2 cI cJ o ov cd t bb hv ht (xs (5 * t + 1)) (xs (5 * t + 2)) (((xs (5 * t + 3)).toInt64 <<< ((nI 32).toInt64 &&& 63)) ||| ((xs (5 * t + 4)).toInt64 &&& 4294967295))
  refine lv_aload_n hx hb d_L_law_208 rfl (lv_at hl 1 rfl) ?_
  refine lv_aload_n hx hb d_L_law_209 rfl (lv_at hl 0 rfl) ?_
  refine lv_iload hx hb d_L_law_210 (lv_at hl 4 rfl) ?_
  refine lv_iconst (v := nI 1) hx hb d_L_law_212 (by decide) ?_
  refine t_iadd hx hb d_L_law_213 (v := nI ((5 * t) + 1)) (nI_add (5 * t) 1) ?_
  refine xa_sld hx hb hX hbl hbA hS (j := (5 * t) + 1) (by omega) (by omega) d_L_law_214 ?_
  refine lv_aload_n hx hb d_L_law_215 rfl (lv_at hl 0 rfl) ?_
  refine lv_iload hx hb d_L_law_216 (lv_at hl 4 rfl) ?_
  refine lv_iconst (v := nI 2) hx hb d_L_law_218 (by decide) ?_
  refine t_iadd hx hb d_L_law_219 (v := nI ((5 * t) + 2)) (nI_add (5 * t) 2) ?_
  refine xa_sld hx hb hX hbl hbA hS (j := (5 * t) + 2) (by omega) (by omega) d_L_law_220 ?_
  refine lv_aload_n hx hb d_L_law_221 rfl (lv_at hl 0 rfl) ?_
  refine lv_iload hx hb d_L_law_222 (lv_at hl 4 rfl) ?_
  refine lv_iconst (v := nI 3) hx hb d_L_law_224 (by decide) ?_
  refine t_iadd hx hb d_L_law_225 (v := nI ((5 * t) + 3)) (nI_add (5 * t) 3) ?_
  refine xa_sld hx hb hX hbl hbA hS (j := (5 * t) + 3) (by omega) (by omega) d_L_law_226 ?_
  refine lv_i2l (v := (xs ((5 * t) + 3)).toInt64) hx hb d_L_law_227 rfl ?_
  refine lv_bipush (v := nI 32) hx hb d_L_law_228 (by decide) ?_
  refine lv_lshl (v := ((xs ((5 * t) + 3)).toInt64) <<< ((nI 32).toInt64 &&& 63)) hx hb d_L_law_230 rfl ?_
  refine lv_aload_n hx hb d_L_law_231 rfl (lv_at hl 0 rfl) ?_
  refine lv_iload hx hb d_L_law_232 (lv_at hl 4 rfl) ?_
  refine lv_iconst (v := nI 4) hx hb d_L_law_234 (by decide) ?_
  refine t_iadd hx hb d_L_law_235 (v := nI ((5 * t) + 4)) (nI_add (5 * t) 4) ?_
  refine xa_sld hx hb hX hbl hbA hS (j := (5 * t) + 4) (by omega) (by omega) d_L_law_236 ?_
  refine lv_i2l (v := (xs ((5 * t) + 4)).toInt64) hx hb d_L_law_237 rfl ?_
  refine lv_ldc2 (v := 4294967295) hx hb hown (hts _ kw_376) d_L_law_238 ?_
  refine lv_land hx hb d_L_law_241 ?_
  refine lv_lor hx hb d_L_law_242 ?_
  refine lv_aload_n hx hb d_L_law_243 rfl (lv_at hl 3 rfl) ?_
  refine ml_calli (xw_runS (n := 5) (As := [.ref (ad 0), .int (xs ((5 * t) + 1)), .int (xs ((5 * t) + 2)), .long ((((xs ((5 * t) + 3)).toInt64) <<< ((nI 32).toInt64 &&& 63)) ||| (((xs ((5 * t) + 4)).toInt64) &&& 4294967295)), .ref o]) (rest := []) ⟨hx, hb, hml, hown, hts⟩ (hw _) kw_196 kw_194 kw_195 kw_0 rfl rfl (by decide +kernel) ⟨Nat.le_of_ble_eq_true rfl, Nat.le_of_ble_eq_true rfl⟩ (mx_preS hK (P_l hP) (D_l hD) (fun U hU hW => xc_moved hX0 hW (fun q hq => by rw [hU]; exact hS.2.1 q hq (Nat.not_le.mpr hq)))) rfl rfl hl.1 rfl (lv_room (Nat.le_of_ble_eq_true rfl)) d_L_law_244 ⟨by show 23 + t + 1 ≤ 1056; omega, by show 323 + 6 * t + 6 ≤ 8569; omega⟩) hP hD hS hA (fun r9 H locs hq hP hD hS => ?_)
  rw [hq]
  have hP : va_P (dC, dI) vwCl ((cbS ad cI cJ b1 ++ [(o, .inl (cJ, 1, .inr (.inl ov1)))]) ++ mdS ad2 cI cJ cd bb) H := hP
  have hD : va_D (fun q : Nat => s.heap.size ≤ q) ((cbS ad cI cJ b1 ++ [(o, .inl (cJ, 1, .inr (.inl ov1)))]) ++ mdS ad2 cI cJ cd bb) := hD
  refine lv_istore (lv' := [(5, .int (nI k)), (0, .ref b), (1, .ref (ad 0)), (2, .ref (ad2 0)), (3, .ref o), (4, .int (nI (5 * t)))]) hx hb d_L_law_247 hl (by decide) rfl (fun ls hl => ?_)
  refine lv_aload_n hx hb d_L_law_249 rfl (lv_at hl 3 rfl) ?_
  refine lv_aload_n hx hb d_L_law_250 rfl (lv_at hl 1 rfl) ?_
  refine lv_iload hx hb d_L_law_251 (lv_at hl 5 rfl) ?_
  refine lv_iconst (v := nI 1) hx hb d_L_law_253 (by decide) ?_
  refine t_iadd hx hb d_L_law_254 (v := nI ((5 * t) + 1)) (nI_add (5 * t) 1) ?_
  refine xa_sld hx hb hX hbl hbA hS (j := (5 * t) + 1) (by omega) (by omega) d_L_law_255 ?_
  refine lv_aload_n hx hb d_L_law_256 rfl (lv_at hl 1 rfl) ?_
  refine lv_iload hx hb d_L_law_257 (lv_at hl 5 rfl) ?_
  refine lv_iconst (v := nI 2) hx hb d_L_law_259 (by decide) ?_
  refine t_iadd hx hb d_L_law_260 (v := nI ((5 * t) + 2)) (nI_add (5 * t) 2) ?_
  refine xa_sld hx hb hX hbl hbA hS (j := (5 * t) + 2) (by omega) (by omega) d_L_law_261 ?_
  refine lv_aload_n hx hb d_L_law_262 rfl (lv_at hl 1 rfl) ?_
  refine lv_iload hx hb d_L_law_263 (lv_at hl 5 rfl) ?_
  refine lv_iconst (v := nI 3) hx hb d_L_law_265 (by decide) ?_
  refine t_iadd hx hb d_L_law_266 (v := nI ((5 * t) + 3)) (nI_add (5 * t) 3) ?_
  refine xa_sld hx hb hX hbl hbA hS (j := (5 * t) + 3) (by omega) (by omega) d_L_law_267 ?_
  refine lv_i2l (v := (xs ((5 * t) + 3)).toInt64) hx hb d_L_law_268 rfl ?_
  refine lv_bipush (v := nI 32) hx hb d_L_law_269 (by decide) ?_
  refine lv_lshl (v := ((xs ((5 * t) + 3)).toInt64) <<< ((nI 32).toInt64 &&& 63)) hx hb d_L_law_271 rfl ?_
  refine lv_aload_n hx hb d_L_law_272 rfl (lv_at hl 1 rfl) ?_
  refine lv_iload hx hb d_L_law_273 (lv_at hl 5 rfl) ?_
  refine lv_iconst (v := nI 4) hx hb d_L_law_275 (by decide) ?_
  refine t_iadd hx hb d_L_law_276 (v := nI ((5 * t) + 4)) (nI_add (5 * t) 4) ?_
  refine xa_sld hx hb hX hbl hbA hS (j := (5 * t) + 4) (by omega) (by omega) d_L_law_277 ?_
  refine lv_i2l (v := (xs ((5 * t) + 4)).toInt64) hx hb d_L_law_278 rfl ?_
  refine lv_ldc2 (v := 4294967295) hx hb hown (hts _ kw_376) d_L_law_279 ?_
  refine lv_land hx hb d_L_law_282 ?_
  refine lv_lor hx hb d_L_law_283 ?_
  refine mr_calll (va_runV (As := [.int (xs ((5 * t) + 1)), .int (xs ((5 * t) + 2)), .long ((((xs ((5 * t) + 3)).toInt64) <<< ((nI 32).toInt64 &&& 63)) ||| (((xs ((5 * t) + 4)).toInt64) &&& 4294967295))]) (rest := []) ⟨hx, hb, hml, hown, hts⟩ (hm _) (cwV 3 hts (wAll_v kw_329 kw_330 kw_331 kw_2 kw_332) rfl rfl rfl (by decide +kernel) ⟨Nat.le_of_ble_eq_true rfl, Nat.le_of_ble_eq_true rfl⟩) (mu_preV hK (P_r hP) (D_r hD) (ci := 1) (q0 := 0) rfl rfl) rfl rfl hl.1 rfl (lv_room (Nat.le_of_ble_eq_true rfl)) d_L_law_284 ⟨by show 23 + t + 1 + 0 ≤ 1056; omega, by show 323 + 6 * t + 6 + 0 ≤ 8569; omega⟩) hP hD hS hA (fun r9 H locs hq hP hD hS => ?_)
  rw [hq]
  have hP : va_P (dC, dI) vwCl ((cbS ad cI cJ b1 ++ [(o, .inl (cJ, 1, .inr (.inl ov1)))]) ++ mdS ad2 cI cJ k b1) H := hP
  have hD : va_D (fun q : Nat => s.heap.size ≤ q) ((cbS ad cI cJ b1 ++ [(o, .inl (cJ, 1, .inr (.inl ov1)))]) ++ mdS ad2 cI cJ k b1) := hD
  refine lv_lstore (lv' := [(6, .long z1), (5, .int (nI k)), (0, .ref b), (1, .ref (ad 0)), (2, .ref (ad2 0)), (3, .ref o), (4, .int (nI (5 * t)))]) hx hb d_L_law_287 hl (by decide) rfl (fun ls hl => ?_)
  refine lv_aload_n hx hb d_L_law_289 rfl (lv_at hl 4 rfl) ?_
  refine ro_call (va_runV (As := []) (rest := []) ⟨hx, hb, hml, hown, hts⟩ (m_thrown l dC dI ad2 cI cJ k b1.1 b1.2.1 b1.2.2.1 b1.2.2.2.1 b1.2.2.2.2.1 b1.2.2.2.2.2.1 b1.2.2.2.2.2.2.1 b1.2.2.2.2.2.2.2.1 b1.2.2.2.2.2.2.2.2.1 b1.2.2.2.2.2.2.2.2.2.1 b1.2.2.2.2.2.2.2.2.2.2.1 b1.2.2.2.2.2.2.2.2.2.2.2) (cwV 0 hts (wAll_v kw_313 kw_314 kw_315 kw_2 kw_316) rfl rfl rfl (by decide +kernel) ⟨Nat.le_of_ble_eq_true rfl, Nat.le_of_ble_eq_true rfl⟩) (ro_preV bl_tt hK (P_r hP) (ci := 1) (q0 := 0) rfl rfl (fun _ _ _ => trivial)) rfl rfl hl.1 rfl (lv_room (Nat.le_of_ble_eq_true rfl)) d_L_law_290 ⟨by show 23 + t + 1 + 0 ≤ 1056; omega, by show 323 + 6 * t + 6 + 0 ≤ 8569; omega⟩) ?_
  refine W.eq (g2 := F0 m 293 ls [.int (nI k)]) rfl ?_
  refine lv_iload hx hb d_L_law_293 (lv_at hl 1 rfl) ?_
  refine lv_icmp_eq (tgt := 300) hx hb d_L_law_295 (by decide) (fun c1 => ?_) (fun c1 => ?_)
  · replace c1 := (nI_eq (by omega) (by omega)).mp c1
    refine lv_iload hx hb d_L_law_300 (lv_at hl 1 rfl) ?_
    refine lv_if_ne (tgt := 316) hx hb d_L_law_302 (by decide) (fun c2 => ?_) (fun c2 => ?_)
    · refine lv_goto (tgt := 789) hx hb d_L_law_316 (by decide) ?_
      refine lv_iinc (v := nI (5 * t + 5)) (lv' := [(4, .int (nI (5 * t + 5))), (6, .long z1), (5, .int (nI k)), (0, .ref b), (1, .ref (ad 0)), (2, .ref (ad2 0)), (3, .ref o)]) hx hb d_L_law_789 hl (k := 6) rfl (nI_add (5 * t) 5) (by decide) rfl (fun ls hl => ?_)
      refine lv_goto (tgt := 23) hx hb d_L_law_792 (by decide) ?_
      refine W.widen (k := 23 + (t + 1)) (n := 323 + 6 * (t + 1)) (by omega) (by omega) ?_
      exact ih b1 ov1 k H locs ls hv1 hP hD hS (lv_sub hl [3, 4, 5, 6, 0] rfl)
    · have e5 := heq (k_z hk c2)
      refine lv_aload_n hx hb d_L_law_305 rfl (lv_at hl 5 rfl) ?_
      refine lv_iconst (v := nI 0) hx hb d_L_law_306 (by decide) ?_
      refine xa_laload (f := ov1) hx hb hK hP 11 1 rfl rfl (j := 0) (by omega) (by decide) d_L_law_307 ?_
      refine lv_lload hx hb d_L_law_308 (lv_at hl 0 rfl) ?_
      refine W.lcmp hx hb d_L_law_310 ?_
      refine lv_if_eq (tgt := 316) hx hb d_L_law_311 (by decide) (fun c3 => ?_) (fun c3 => ?_)
      · replace c3 := (lg_cmp_eq _ _).mp c3
        refine lv_goto (tgt := 789) hx hb d_L_law_316 (by decide) ?_
        refine lv_iinc (v := nI (5 * t + 5)) (lv' := [(4, .int (nI (5 * t + 5))), (6, .long z1), (5, .int (nI k)), (0, .ref b), (1, .ref (ad 0)), (2, .ref (ad2 0)), (3, .ref o)]) hx hb d_L_law_789 hl (k := 6) rfl (nI_add (5 * t) 5) (by decide) rfl (fun ls hl => ?_)
        refine lv_goto (tgt := 23) hx hb d_L_law_792 (by decide) ?_
        refine W.widen (k := 23 + (t + 1)) (n := 323 + 6 * (t + 1)) (by omega) (by omega) ?_
        exact ih b1 ov1 k H locs ls hv1 hP hD hS (lv_sub hl [3, 4, 5, 6, 0] rfl)
      · replace c3 := mt (lg_cmp_eq _ _).mpr c3
        exact absurd e5 c3
  · replace c1 := mt (nI_eq (by omega) (by omega)).mpr c1
    exact absurd rfl c1
set_option maxHeartbeats 4000000 in
set_option maxRecDepth 100000 in
theorem op_back {p : Program} {l : Launch} {e : Env} {s : State} {m : MethodId} {below : List Frame} {meth : Method} {c : Code} {dC : Nat → ClassId} {dI : Nat → Nat → Nat} {b L : Nat} {xs : Nat → Int32} (hl0 : l.stackTraces = false) (hL : L ≤ 2560) (C0 : lw_At p s m meth c b L xs) (hX0 : xc_ok "ClearingBooks" cb_ks s) {cI cJ : ClassId} (hK : va_K (dC, dI) vwCl [(cI, .int), (cJ, .long)] s) {ad ad2 : Nat → Nat} {o : Nat} {t : Nat} {bb : ST} {ov : Nat → Int64} {cd : Nat} (hv : invS t bb) (ht : t < 512) (hi : 5 * t + 5 ≤ L) {H : Heap} {locs : List Loc} (hP : va_P (dC, dI) vwCl ((cbS ad cI cJ bb ++ [(o, .inl (cJ, 1, .inr (.inl ov)))]) ++ mdS ad2 cI cJ cd bb) H) (hD : va_D (fun q : Nat => s.heap.size ≤ q) ((cbS ad cI cJ bb ++ [(o, .inl (cJ, 1, .inr (.inl ov)))]) ++ mdS ad2 cI cJ cd bb)) (hS : va_S (fun q : Nat => s.heap.size ≤ q) s.heap H locs) {ls : Array Slot} (hl : lv_has ls 8 [(0, .ref b), (1, .ref (ad 0)), (2, .ref (ad2 0)), (3, .ref o), (4, .int (nI (5 * t)))]) (ih : ∀ (bb : ST) (ov : Nat → Int64) (cd : Nat) (H : Heap) (locs : List Loc) (ls : Array Slot), invS (t + 1) bb → va_P (dC, dI) vwCl ((cbS ad cI cJ bb ++ [(o, .inl (cJ, 1, .inr (.inl ov)))]) ++ mdS ad2 cI cJ cd bb) H → va_D (fun q : Nat => s.heap.size ≤ q) ((cbS ad cI cJ bb ++ [(o, .inl (cJ, 1, .inr (.inl ov)))]) ++ mdS ad2 cI cJ cd bb) → va_S (fun q : Nat => s.heap.size ≤ q) s.heap H locs → lv_has ls 8 [(0, .ref b), (1, .ref (ad 0)), (2, .ref (ad2 0)), (3, .ref o), (4, .int (nI (5 * t + 5)))] → W p l e room_1 s m #[Value.ref b] below meth c H locs (23 + (t + 1)) (323 + 6 * (t + 1)) (lw_Z below #[Value.ref b] s) (F0 m 23 ls [])) : W p l e room_1 s m #[Value.ref b] below meth c H locs (23 + t) (323 + 6 * t) (lw_Z below #[Value.ref b] s) (F0 m 319 ls []) := by
  obtain ⟨hx, hb, hr, hml, hown0, hts0, hX, hbl, hlocks, hgv⟩ := id C0
  have hts : ∀ w ∈ wAll, w.before #[Value.ref b] s = true := fun w h => hts0 w (wAll_tbl h)
  have hown : s.vm.findClass "ClearingBooksLaw" = some m.cls := hown0
  have hA : ∀ q : Nat, s.heap.size ≤ q → (fun q : Nat => s.heap.size ≤ q) q := fun _ h => h
  have hbA : ¬ (fun q : Nat => s.heap.size ≤ q) b := Nat.not_le.mpr hbl
  obtain ⟨k, z1, ov1, b1, hk, hw, hm, heq, hv1⟩ := s_back l hl0 dC dI ad ad2 cI cJ o ov cd t bb hv ht (xs (5 * t + 1)) (xs (5 * t + 2)) (((xs (5 * t + 3)).toInt64 <<< ((nI 32).toInt64 &&& 63)) ||| ((xs (5 * t + 4)).toInt64 &&& 4294967295))
  refine lv_aload_n hx hb d_L_law_319 rfl (lv_at hl 1 rfl) ?_
  refine lv_aload_n hx hb d_L_law_320 rfl (lv_at hl 0 rfl) ?_
  refine lv_iload hx hb d_L_law_321 (lv_at hl 4 rfl) ?_
  refine lv_iconst (v := nI 1) hx hb d_L_law_323 (by decide) ?_
  refine t_iadd hx hb d_L_law_324 (v := nI ((5 * t) + 1)) (nI_add (5 * t) 1) ?_
  refine xa_sld hx hb hX hbl hbA hS (j := (5 * t) + 1) (by omega) (by omega) d_L_law_325 ?_
  refine lv_aload_n hx hb d_L_law_326 rfl (lv_at hl 0 rfl) ?_
  refine lv_iload hx hb d_L_law_327 (lv_at hl 4 rfl) ?_
  refine lv_iconst (v := nI 2) hx hb d_L_law_329 (by decide) ?_
  refine t_iadd hx hb d_L_law_330 (v := nI ((5 * t) + 2)) (nI_add (5 * t) 2) ?_
  refine xa_sld hx hb hX hbl hbA hS (j := (5 * t) + 2) (by omega) (by omega) d_L_law_331 ?_
  refine lv_aload_n hx hb d_L_law_332 rfl (lv_at hl 0 rfl) ?_
  refine lv_iload hx hb d_L_law_333 (lv_at hl 4 rfl) ?_
  refine lv_iconst (v := nI 3) hx hb d_L_law_335 (by decide) ?_
  refine t_iadd hx hb d_L_law_336 (v := nI ((5 * t) + 3)) (nI_add (5 * t) 3) ?_
  refine xa_sld hx hb hX hbl hbA hS (j := (5 * t) + 3) (by omega) (by omega) d_L_law_337 ?_
  refine lv_i2l (v := (xs ((5 * t) + 3)).toInt64) hx hb d_L_law_338 rfl ?_
  refine lv_bipush (v := nI 32) hx hb d_L_law_339 (by decide) ?_
  refine lv_lshl (v := ((xs ((5 * t) + 3)).toInt64) <<< ((nI 32).toInt64 &&& 63)) hx hb d_L_law_341 rfl ?_
  refine lv_aload_n hx hb d_L_law_342 rfl (lv_at hl 0 rfl) ?_
  refine lv_iload hx hb d_L_law_343 (lv_at hl 4 rfl) ?_
  refine lv_iconst (v := nI 4) hx hb d_L_law_345 (by decide) ?_
  refine t_iadd hx hb d_L_law_346 (v := nI ((5 * t) + 4)) (nI_add (5 * t) 4) ?_
  refine xa_sld hx hb hX hbl hbA hS (j := (5 * t) + 4) (by omega) (by omega) d_L_law_347 ?_
  refine lv_i2l (v := (xs ((5 * t) + 4)).toInt64) hx hb d_L_law_348 rfl ?_
  refine lv_ldc2 (v := 4294967295) hx hb hown (hts _ kw_376) d_L_law_349 ?_
  refine lv_land hx hb d_L_law_352 ?_
  refine lv_lor hx hb d_L_law_353 ?_
  refine lv_aload_n hx hb d_L_law_354 rfl (lv_at hl 3 rfl) ?_
  refine ml_calli (xw_runS (n := 5) (As := [.ref (ad 0), .int (xs ((5 * t) + 1)), .int (xs ((5 * t) + 2)), .long ((((xs ((5 * t) + 3)).toInt64) <<< ((nI 32).toInt64 &&& 63)) ||| (((xs ((5 * t) + 4)).toInt64) &&& 4294967295)), .ref o]) (rest := []) ⟨hx, hb, hml, hown, hts⟩ (hw _) kw_224 kw_222 kw_223 kw_0 rfl rfl (by decide +kernel) ⟨Nat.le_of_ble_eq_true rfl, Nat.le_of_ble_eq_true rfl⟩ (mx_preS hK (P_l hP) (D_l hD) (fun U hU hW => xc_moved hX0 hW (fun q hq => by rw [hU]; exact hS.2.1 q hq (Nat.not_le.mpr hq)))) rfl rfl hl.1 rfl (lv_room (Nat.le_of_ble_eq_true rfl)) d_L_law_355 ⟨by show 23 + t + 1 ≤ 1056; omega, by show 323 + 6 * t + 6 ≤ 8569; omega⟩) hP hD hS hA (fun r9 H locs hq hP hD hS => ?_)
  rw [hq]
  have hP : va_P (dC, dI) vwCl ((cbS ad cI cJ b1 ++ [(o, .inl (cJ, 1, .inr (.inl ov1)))]) ++ mdS ad2 cI cJ cd bb) H := hP
  have hD : va_D (fun q : Nat => s.heap.size ≤ q) ((cbS ad cI cJ b1 ++ [(o, .inl (cJ, 1, .inr (.inl ov1)))]) ++ mdS ad2 cI cJ cd bb) := hD
  refine lv_istore (lv' := [(5, .int (nI k)), (0, .ref b), (1, .ref (ad 0)), (2, .ref (ad2 0)), (3, .ref o), (4, .int (nI (5 * t)))]) hx hb d_L_law_358 hl (by decide) rfl (fun ls hl => ?_)
  refine lv_aload_n hx hb d_L_law_360 rfl (lv_at hl 3 rfl) ?_
  refine lv_aload_n hx hb d_L_law_361 rfl (lv_at hl 1 rfl) ?_
  refine lv_iload hx hb d_L_law_362 (lv_at hl 5 rfl) ?_
  refine lv_iconst (v := nI 1) hx hb d_L_law_364 (by decide) ?_
  refine t_iadd hx hb d_L_law_365 (v := nI ((5 * t) + 1)) (nI_add (5 * t) 1) ?_
  refine xa_sld hx hb hX hbl hbA hS (j := (5 * t) + 1) (by omega) (by omega) d_L_law_366 ?_
  refine lv_aload_n hx hb d_L_law_367 rfl (lv_at hl 1 rfl) ?_
  refine lv_iload hx hb d_L_law_368 (lv_at hl 5 rfl) ?_
  refine lv_iconst (v := nI 2) hx hb d_L_law_370 (by decide) ?_
  refine t_iadd hx hb d_L_law_371 (v := nI ((5 * t) + 2)) (nI_add (5 * t) 2) ?_
  refine xa_sld hx hb hX hbl hbA hS (j := (5 * t) + 2) (by omega) (by omega) d_L_law_372 ?_
  refine lv_aload_n hx hb d_L_law_373 rfl (lv_at hl 1 rfl) ?_
  refine lv_iload hx hb d_L_law_374 (lv_at hl 5 rfl) ?_
  refine lv_iconst (v := nI 3) hx hb d_L_law_376 (by decide) ?_
  refine t_iadd hx hb d_L_law_377 (v := nI ((5 * t) + 3)) (nI_add (5 * t) 3) ?_
  refine xa_sld hx hb hX hbl hbA hS (j := (5 * t) + 3) (by omega) (by omega) d_L_law_378 ?_
  refine lv_i2l (v := (xs ((5 * t) + 3)).toInt64) hx hb d_L_law_379 rfl ?_
  refine lv_bipush (v := nI 32) hx hb d_L_law_380 (by decide) ?_
  refine lv_lshl (v := ((xs ((5 * t) + 3)).toInt64) <<< ((nI 32).toInt64 &&& 63)) hx hb d_L_law_382 rfl ?_
  refine lv_aload_n hx hb d_L_law_383 rfl (lv_at hl 1 rfl) ?_
  refine lv_iload hx hb d_L_law_384 (lv_at hl 5 rfl) ?_
  refine lv_iconst (v := nI 4) hx hb d_L_law_386 (by decide) ?_
  refine t_iadd hx hb d_L_law_387 (v := nI ((5 * t) + 4)) (nI_add (5 * t) 4) ?_
  refine xa_sld hx hb hX hbl hbA hS (j := (5 * t) + 4) (by omega) (by omega) d_L_law_388 ?_
  refine lv_i2l (v := (xs ((5 * t) + 4)).toInt64) hx hb d_L_law_389 rfl ?_
  refine lv_ldc2 (v := 4294967295) hx hb hown (hts _ kw_376) d_L_law_390 ?_
  refine lv_land hx hb d_L_law_393 ?_
  refine lv_lor hx hb d_L_law_394 ?_
  refine mr_calll (va_runV (As := [.int (xs ((5 * t) + 1)), .int (xs ((5 * t) + 2)), .long ((((xs ((5 * t) + 3)).toInt64) <<< ((nI 32).toInt64 &&& 63)) ||| (((xs ((5 * t) + 4)).toInt64) &&& 4294967295))]) (rest := []) ⟨hx, hb, hml, hown, hts⟩ (hm _) (cwV 3 hts (wAll_v kw_343 kw_344 kw_345 kw_2 kw_346) rfl rfl rfl (by decide +kernel) ⟨Nat.le_of_ble_eq_true rfl, Nat.le_of_ble_eq_true rfl⟩) (mu_preV hK (P_r hP) (D_r hD) (ci := 1) (q0 := 0) rfl rfl) rfl rfl hl.1 rfl (lv_room (Nat.le_of_ble_eq_true rfl)) d_L_law_395 ⟨by show 23 + t + 1 + 0 ≤ 1056; omega, by show 323 + 6 * t + 6 + 0 ≤ 8569; omega⟩) hP hD hS hA (fun r9 H locs hq hP hD hS => ?_)
  rw [hq]
  have hP : va_P (dC, dI) vwCl ((cbS ad cI cJ b1 ++ [(o, .inl (cJ, 1, .inr (.inl ov1)))]) ++ mdS ad2 cI cJ k b1) H := hP
  have hD : va_D (fun q : Nat => s.heap.size ≤ q) ((cbS ad cI cJ b1 ++ [(o, .inl (cJ, 1, .inr (.inl ov1)))]) ++ mdS ad2 cI cJ k b1) := hD
  refine lv_lstore (lv' := [(6, .long z1), (5, .int (nI k)), (0, .ref b), (1, .ref (ad 0)), (2, .ref (ad2 0)), (3, .ref o), (4, .int (nI (5 * t)))]) hx hb d_L_law_398 hl (by decide) rfl (fun ls hl => ?_)
  refine lv_aload_n hx hb d_L_law_400 rfl (lv_at hl 4 rfl) ?_
  refine ro_call (va_runV (As := []) (rest := []) ⟨hx, hb, hml, hown, hts⟩ (m_thrown l dC dI ad2 cI cJ k b1.1 b1.2.1 b1.2.2.1 b1.2.2.2.1 b1.2.2.2.2.1 b1.2.2.2.2.2.1 b1.2.2.2.2.2.2.1 b1.2.2.2.2.2.2.2.1 b1.2.2.2.2.2.2.2.2.1 b1.2.2.2.2.2.2.2.2.2.1 b1.2.2.2.2.2.2.2.2.2.2.1 b1.2.2.2.2.2.2.2.2.2.2.2) (cwV 0 hts (wAll_v kw_313 kw_314 kw_315 kw_2 kw_316) rfl rfl rfl (by decide +kernel) ⟨Nat.le_of_ble_eq_true rfl, Nat.le_of_ble_eq_true rfl⟩) (ro_preV bl_tt hK (P_r hP) (ci := 1) (q0 := 0) rfl rfl (fun _ _ _ => trivial)) rfl rfl hl.1 rfl (lv_room (Nat.le_of_ble_eq_true rfl)) d_L_law_401 ⟨by show 23 + t + 1 + 0 ≤ 1056; omega, by show 323 + 6 * t + 6 + 0 ≤ 8569; omega⟩) ?_
  refine W.eq (g2 := F0 m 404 ls [.int (nI k)]) rfl ?_
  refine lv_iload hx hb d_L_law_404 (lv_at hl 1 rfl) ?_
  refine lv_icmp_eq (tgt := 411) hx hb d_L_law_406 (by decide) (fun c1 => ?_) (fun c1 => ?_)
  · replace c1 := (nI_eq (by omega) (by omega)).mp c1
    refine lv_iload hx hb d_L_law_411 (lv_at hl 1 rfl) ?_
    refine lv_if_ne (tgt := 427) hx hb d_L_law_413 (by decide) (fun c2 => ?_) (fun c2 => ?_)
    · refine lv_goto (tgt := 789) hx hb d_L_law_427 (by decide) ?_
      refine lv_iinc (v := nI (5 * t + 5)) (lv' := [(4, .int (nI (5 * t + 5))), (6, .long z1), (5, .int (nI k)), (0, .ref b), (1, .ref (ad 0)), (2, .ref (ad2 0)), (3, .ref o)]) hx hb d_L_law_789 hl (k := 6) rfl (nI_add (5 * t) 5) (by decide) rfl (fun ls hl => ?_)
      refine lv_goto (tgt := 23) hx hb d_L_law_792 (by decide) ?_
      refine W.widen (k := 23 + (t + 1)) (n := 323 + 6 * (t + 1)) (by omega) (by omega) ?_
      exact ih b1 ov1 k H locs ls hv1 hP hD hS (lv_sub hl [3, 4, 5, 6, 0] rfl)
    · have e5 := heq (k_z hk c2)
      refine lv_aload_n hx hb d_L_law_416 rfl (lv_at hl 5 rfl) ?_
      refine lv_iconst (v := nI 0) hx hb d_L_law_417 (by decide) ?_
      refine xa_laload (f := ov1) hx hb hK hP 11 1 rfl rfl (j := 0) (by omega) (by decide) d_L_law_418 ?_
      refine lv_lload hx hb d_L_law_419 (lv_at hl 0 rfl) ?_
      refine W.lcmp hx hb d_L_law_421 ?_
      refine lv_if_eq (tgt := 427) hx hb d_L_law_422 (by decide) (fun c3 => ?_) (fun c3 => ?_)
      · replace c3 := (lg_cmp_eq _ _).mp c3
        refine lv_goto (tgt := 789) hx hb d_L_law_427 (by decide) ?_
        refine lv_iinc (v := nI (5 * t + 5)) (lv' := [(4, .int (nI (5 * t + 5))), (6, .long z1), (5, .int (nI k)), (0, .ref b), (1, .ref (ad 0)), (2, .ref (ad2 0)), (3, .ref o)]) hx hb d_L_law_789 hl (k := 6) rfl (nI_add (5 * t) 5) (by decide) rfl (fun ls hl => ?_)
        refine lv_goto (tgt := 23) hx hb d_L_law_792 (by decide) ?_
        refine W.widen (k := 23 + (t + 1)) (n := 323 + 6 * (t + 1)) (by omega) (by omega) ?_
        exact ih b1 ov1 k H locs ls hv1 hP hD hS (lv_sub hl [3, 4, 5, 6, 0] rfl)
      · replace c3 := mt (lg_cmp_eq _ _).mpr c3
        exact absurd e5 c3
  · replace c1 := mt (nI_eq (by omega) (by omega)).mpr c1
    exact absurd rfl c1
