set_option maxHeartbeats 4000000 in
set_option maxRecDepth 100000 in
theorem s_acquirer (l : Launch) (hl0 : l.stackTraces = false) (dC : Nat → ClassId) (dI : Nat → Nat → Nat) (ad ad2 : Nat → Nat) (cI cJ : ClassId) (o : Nat) (ov : Nat → Int64) (cd t : Nat) (b : ST) (hv : invS t b) (ht : t < 512) (x : Int32) : ∃ (k : Nat) (z1 : Int32) (ov1 : Nat → Int64) (b1 : ST), k ≤ 2 ∧ (∀ sz : Nat, Met l y_L_acquirer (.codeWith y_L_acquirer b_L_acquirer 4 (some .int) [(0, 9, 12, 13), (0, 9, 15, 15)] :: wAll) ({ frames := 8, cells := 1, slots := 6, locals := 134 } : Room) (mx_P [.ref (ad 0), .int x, .ref o] (dC, dI) vwCl [(cI, .int), (cJ, .long)] (cbS ad cI cJ b ++ [(o, .inl (cJ, 1, .inr (.inl ov)))]) sz) (va_Qi (fun (z : Int32) (_ : Unit) => z = nI k) (mu_B (dC, dI) vwCl [(cI, .int), (cJ, .long)] (va_A (cbS ad cI cJ b ++ [(o, .inl (cJ, 1, .inr (.inl ov)))]) sz) (cbS ad cI cJ b1 ++ [(o, .inl (cJ, 1, .inr (.inl ov1)))])) (va_A (cbS ad cI cJ b ++ [(o, .inl (cJ, 1, .inr (.inl ov)))]) sz)) 1 6 (va_A (cbS ad cI cJ b ++ [(o, .inl (cJ, 1, .inr (.inl ov)))]) sz)) ∧ (∀ sz : Nat, Met l y_M_acquirer (.code y_M_acquirer b_M_acquirer 2 (some .int) :: wAll) ({ frames := 1, cells := 0, slots := 0, locals := 22 } : Room) (mu_P [.ref (ad2 0), .int x] (dC, dI) vwCl [(cI, .int), (cJ, .long)] (mdS ad2 cI cJ cd b) sz) (va_Qi (fun (w : Int32) (_ : Unit) => w = z1) (mu_B (dC, dI) vwCl [(cI, .int), (cJ, .long)] (va_A (mdS ad2 cI cJ cd b) sz) (mdS ad2 cI cJ k b1)) (va_A (mdS ad2 cI cJ cd b) sz)) 0 0 (va_A (mdS ad2 cI cJ cd b) sz)) ∧ (k = 0 → ov1 0 = z1.toInt64) ∧ invS (t + 1) b1 := by
  obtain ⟨n, tc, ki, ra, po, se, bc, bs, op, pr, pe, pm⟩ := b
  have hv : inv t n tc ki ra po se := hv
  have hn := hv.2.1
  by_cases hx : ¬ x < 0 ∧ x ≤ nI 1000
  · obtain ⟨r, hr, rfl⟩ := nI_of hx.1
    have hr0 : r ≤ 1000 := (nI_leI hr (by decide)).mp hx.2
    by_cases h15 : n = 15
    · exact ⟨2, nI 0, ov, (n, tc, ki, ra, po, se, bc, bs, op, pr, pe, pm), by decide, fun sz => w_acquirer_ts l dC dI ad cI cJ n tc ki ra po se bc bs op pr pe pm o ov sz r hr0 h15 hl0, fun sz => m_acquirer_ts l dC dI ad2 cI cJ cd n tc ki ra po se bc bs op pr pe pm sz r hr0 h15, fun h => absurd h (by decide), inv_mono hv⟩
    · have hlt : n < 15 := by omega
      exact ⟨0, nI n, vp_updL ov 0 ((nI n).toInt64), (n + 1, tc, upd ki n (nI 1), upd ra n (nI r), po, se, bc, bs, op, pr, pe, pm), by decide, fun sz => w_acquirer_y l dC dI ad cI cJ n tc ki ra po se bc bs op pr pe pm o ov sz r hr0 hlt, fun sz => m_acquirer_y l dC dI ad2 cI cJ cd n tc ki ra po se bc bs op pr pe pm sz r hr0 hlt, fun _ => upL_s _ _ _, inv_enter hv hlt hr0⟩
  · exact ⟨1, nI 0, ov, (n, tc, ki, ra, po, se, bc, bs, op, pr, pe, pm), by decide, fun sz => w_acquirer_ta l dC dI ad cI cJ n tc ki ra po se bc bs op pr pe pm o ov sz x hx hl0, fun sz => m_acquirer_ta l dC dI ad2 cI cJ cd n tc ki ra po se bc bs op pr pe pm sz x hx, fun h => absurd h (by decide), inv_mono hv⟩

set_option maxHeartbeats 4000000 in
set_option maxRecDepth 100000 in
theorem s_issuer (l : Launch) (hl0 : l.stackTraces = false) (dC : Nat → ClassId) (dI : Nat → Nat → Nat) (ad ad2 : Nat → Nat) (cI cJ : ClassId) (o : Nat) (ov : Nat → Int64) (cd t : Nat) (b : ST) (hv : invS t b) (ht : t < 512) (x : Int32) : ∃ (k : Nat) (z1 : Int32) (ov1 : Nat → Int64) (b1 : ST), k ≤ 2 ∧ (∀ sz : Nat, Met l y_L_issuer (.codeWith y_L_issuer b_L_issuer 4 (some .int) [(0, 9, 12, 13), (0, 9, 15, 15)] :: wAll) ({ frames := 8, cells := 1, slots := 6, locals := 134 } : Room) (mx_P [.ref (ad 0), .int x, .ref o] (dC, dI) vwCl [(cI, .int), (cJ, .long)] (cbS ad cI cJ b ++ [(o, .inl (cJ, 1, .inr (.inl ov)))]) sz) (va_Qi (fun (z : Int32) (_ : Unit) => z = nI k) (mu_B (dC, dI) vwCl [(cI, .int), (cJ, .long)] (va_A (cbS ad cI cJ b ++ [(o, .inl (cJ, 1, .inr (.inl ov)))]) sz) (cbS ad cI cJ b1 ++ [(o, .inl (cJ, 1, .inr (.inl ov1)))])) (va_A (cbS ad cI cJ b ++ [(o, .inl (cJ, 1, .inr (.inl ov)))]) sz)) 1 6 (va_A (cbS ad cI cJ b ++ [(o, .inl (cJ, 1, .inr (.inl ov)))]) sz)) ∧ (∀ sz : Nat, Met l y_M_issuer (.code y_M_issuer b_M_issuer 2 (some .int) :: wAll) ({ frames := 1, cells := 0, slots := 0, locals := 22 } : Room) (mu_P [.ref (ad2 0), .int x] (dC, dI) vwCl [(cI, .int), (cJ, .long)] (mdS ad2 cI cJ cd b) sz) (va_Qi (fun (w : Int32) (_ : Unit) => w = z1) (mu_B (dC, dI) vwCl [(cI, .int), (cJ, .long)] (va_A (mdS ad2 cI cJ cd b) sz) (mdS ad2 cI cJ k b1)) (va_A (mdS ad2 cI cJ cd b) sz)) 0 0 (va_A (mdS ad2 cI cJ cd b) sz)) ∧ (k = 0 → ov1 0 = z1.toInt64) ∧ invS (t + 1) b1 := by
  obtain ⟨n, tc, ki, ra, po, se, bc, bs, op, pr, pe, pm⟩ := b
  have hv : inv t n tc ki ra po se := hv
  have hn := hv.2.1
  by_cases hx : ¬ x < 0 ∧ x ≤ nI 1000
  · obtain ⟨r, hr, rfl⟩ := nI_of hx.1
    have hr0 : r ≤ 1000 := (nI_leI hr (by decide)).mp hx.2
    by_cases h15 : n = 15
    · exact ⟨2, nI 0, ov, (n, tc, ki, ra, po, se, bc, bs, op, pr, pe, pm), by decide, fun sz => w_issuer_ts l dC dI ad cI cJ n tc ki ra po se bc bs op pr pe pm o ov sz r hr0 h15 hl0, fun sz => m_issuer_ts l dC dI ad2 cI cJ cd n tc ki ra po se bc bs op pr pe pm sz r hr0 h15, fun h => absurd h (by decide), inv_mono hv⟩
    · have hlt : n < 15 := by omega
      exact ⟨0, nI n, vp_updL ov 0 ((nI n).toInt64), (n + 1, tc, upd ki n (nI 2), upd ra n (nI r), po, se, bc, bs, op, pr, pe, pm), by decide, fun sz => w_issuer_y l dC dI ad cI cJ n tc ki ra po se bc bs op pr pe pm o ov sz r hr0 hlt, fun sz => m_issuer_y l dC dI ad2 cI cJ cd n tc ki ra po se bc bs op pr pe pm sz r hr0 hlt, fun _ => upL_s _ _ _, inv_enter hv hlt hr0⟩
  · exact ⟨1, nI 0, ov, (n, tc, ki, ra, po, se, bc, bs, op, pr, pe, pm), by decide, fun sz => w_issuer_ta l dC dI ad cI cJ n tc ki ra po se bc bs op pr pe pm o ov sz x hx hl0, fun sz => m_issuer_ta l dC dI ad2 cI cJ cd n tc ki ra po se bc bs op pr pe pm sz x hx, fun h => absurd h (by decide), inv_mono hv⟩

set_option maxHeartbeats 4000000 in
set_option maxRecDepth 100000 in
theorem s_clear (l : Launch) (hl0 : l.stackTraces = false) (dC : Nat → ClassId) (dI : Nat → Nat → Nat) (ad ad2 : Nat → Nat) (cI cJ : ClassId) (o : Nat) (ov : Nat → Int64) (cd t : Nat) (b : ST) (hv : invS t b) (ht : t < 512) (a0 b0 : Int32) (x : Int64) : ∃ (k : Nat) (z1 : Int64) (ov1 : Nat → Int64) (b1 : ST), k ≤ 2 ∧ (∀ sz : Nat, Met l y_L_clear (.codeWith y_L_clear b_L_clear 7 (some .int) [(0, 11, 14, 13)] :: wAll) ({ frames := 8, cells := 1, slots := 6, locals := 141 } : Room) (mx_P [.ref (ad 0), .int a0, .int b0, .long x, .ref o] (dC, dI) vwCl [(cI, .int), (cJ, .long)] (cbS ad cI cJ b ++ [(o, .inl (cJ, 1, .inr (.inl ov)))]) sz) (va_Qi (fun (z : Int32) (_ : Unit) => z = nI k) (mu_B (dC, dI) vwCl [(cI, .int), (cJ, .long)] (va_A (cbS ad cI cJ b ++ [(o, .inl (cJ, 1, .inr (.inl ov)))]) sz) (cbS ad cI cJ b1 ++ [(o, .inl (cJ, 1, .inr (.inl ov1)))])) (va_A (cbS ad cI cJ b ++ [(o, .inl (cJ, 1, .inr (.inl ov)))]) sz)) 1 6 (va_A (cbS ad cI cJ b ++ [(o, .inl (cJ, 1, .inr (.inl ov)))]) sz)) ∧ (∀ sz : Nat, Met l y_M_clear (.code y_M_clear b_M_clear 11 (some .long) :: wAll) ({ frames := 1, cells := 0, slots := 0, locals := 22 } : Room) (mu_P [.ref (ad2 0), .int a0, .int b0, .long x] (dC, dI) vwCl [(cI, .int), (cJ, .long)] (mdS ad2 cI cJ cd b) sz) (va_Ql (fun (w : Int64) (_ : Unit) => w = z1) (mu_B (dC, dI) vwCl [(cI, .int), (cJ, .long)] (va_A (mdS ad2 cI cJ cd b) sz) (mdS ad2 cI cJ k b1)) (va_A (mdS ad2 cI cJ cd b) sz)) 0 0 (va_A (mdS ad2 cI cJ cd b) sz)) ∧ (k = 0 → ov1 0 = z1) ∧ invS (t + 1) b1 := by
  obtain ⟨n, tc, ki, ra, po, se, bc, bs, op, pr, pe, pm⟩ := b
  have hv : inv t n tc ki ra po se := hv
  have hn := hv.2.1
  by_cases ha : is_k n ki a0 (nI 1)
  · obtain ⟨i, i0, hi, rfl, hki⟩ := pk_j hv (by decide) ha
    by_cases hb : is_k n ki b0 (nI 2)
    · obtain ⟨j, j0, hj, rfl, hkj⟩ := pk_j hv (by decide) hb
      have hij : i ≠ j := fun z => by rw [z, hkj] at hki; exact absurd hki (by decide)
      by_cases hx : ¬ x < 1 ∧ ¬ 1000000000000 < x
      · obtain ⟨ri, hri, eri⟩ := hv.2.2.2.2.1 i hi
        obtain ⟨rj, hrj, erj⟩ := hv.2.2.2.2.1 j hj
        have x1 : 1 ≤ x.toInt := by
          have := Int64.le_iff_toInt_le.mp (Int64.not_lt.mp hx.1)
          simpa using this
        have x2 : x.toInt ≤ 1000000000000 := by
          have := Int64.le_iff_toInt_le.mp (Int64.not_lt.mp hx.2)
          simpa using this
        have ec : ra i + ra j = ra j + ra i := Int32.add_comm _ _
        have es : (ra j + ra i).toInt64.toInt = ((rj + ri : Nat) : Int) := by rw [eri, erj, nI_add, nI_l (by omega), lN_toInt (by omega)]
        have ej : (ra j).toInt64.toInt = (rj : Int) := by rw [erj]; exact rate_i hrj
        obtain ⟨c1, c2, c3⟩ := cg_ok x1 x2 es (by omega)
        obtain ⟨d1, d2⟩ := dn_ok x1 x2 ej hrj
        have hm := fun sz : Nat => m_clear_y l dC dI ad2 cI cJ cd n tc ki ra po se bc bs op pr pe pm sz i j x i0 j0 hi hj hn hki hkj hx.1 hx.2
        rw [ec, c3] at hm
        exact ⟨0, cgv x (ra j + ra i), vp_updL ov 0 (cgv x (ra j + ra i)), (n, tc, ki, ra, po_cl po i j x (cgv x (ra j + ra i)) (dnv x (ra j)), se, upd bc i (bc i + nI 1), vp_updL bs i (bs i + x), op, pr, pe, pm), by decide, fun sz => w_clear_y l dC dI ad cI cJ n tc ki ra po se bc bs op pr pe pm o ov sz i j x hi hj hn hki hkj hx.1 hx.2, fun sz => hm sz, fun _ => upL_s _ _ _, inv_cl hv ht i0 j0 hi hj hij x1 x2 c1 c2 d1 d2⟩
      · exact ⟨1, 0, ov, (n, tc, ki, ra, po, se, bc, bs, op, pr, pe, pm), by decide, fun sz => w_clear_tx l dC dI ad cI cJ n tc ki ra po se bc bs op pr pe pm o ov sz i j x hi hj hn hki hkj hx hl0, fun sz => m_clear_tx l dC dI ad2 cI cJ cd n tc ki ra po se bc bs op pr pe pm sz i j x i0 j0 hi hj hn hki hkj hx, fun h => absurd h (by decide), inv_mono hv⟩
    · exact ⟨1, 0, ov, (n, tc, ki, ra, po, se, bc, bs, op, pr, pe, pm), by decide, fun sz => w_clear_tb l dC dI ad cI cJ n tc ki ra po se bc bs op pr pe pm o ov sz i b0 x hi hn hki hb hl0, fun sz => m_clear_tb l dC dI ad2 cI cJ cd n tc ki ra po se bc bs op pr pe pm sz i b0 x i0 hi hn hki hb, fun h => absurd h (by decide), inv_mono hv⟩
  · exact ⟨1, 0, ov, (n, tc, ki, ra, po, se, bc, bs, op, pr, pe, pm), by decide, fun sz => w_clear_ta l dC dI ad cI cJ n tc ki ra po se bc bs op pr pe pm o ov sz a0 b0 x hn ha hl0, fun sz => m_clear_ta l dC dI ad2 cI cJ cd n tc ki ra po se bc bs op pr pe pm sz a0 b0 x hn ha, fun h => absurd h (by decide), inv_mono hv⟩

set_option maxHeartbeats 4000000 in
set_option maxRecDepth 100000 in
theorem s_back (l : Launch) (hl0 : l.stackTraces = false) (dC : Nat → ClassId) (dI : Nat → Nat → Nat) (ad ad2 : Nat → Nat) (cI cJ : ClassId) (o : Nat) (ov : Nat → Int64) (cd t : Nat) (b : ST) (hv : invS t b) (ht : t < 512) (a0 b0 : Int32) (x : Int64) : ∃ (k : Nat) (z1 : Int64) (ov1 : Nat → Int64) (b1 : ST), k ≤ 2 ∧ (∀ sz : Nat, Met l y_L_back (.codeWith y_L_back b_L_back 7 (some .int) [(0, 11, 14, 13)] :: wAll) ({ frames := 8, cells := 1, slots := 6, locals := 137 } : Room) (mx_P [.ref (ad 0), .int a0, .int b0, .long x, .ref o] (dC, dI) vwCl [(cI, .int), (cJ, .long)] (cbS ad cI cJ b ++ [(o, .inl (cJ, 1, .inr (.inl ov)))]) sz) (va_Qi (fun (z : Int32) (_ : Unit) => z = nI k) (mu_B (dC, dI) vwCl [(cI, .int), (cJ, .long)] (va_A (cbS ad cI cJ b ++ [(o, .inl (cJ, 1, .inr (.inl ov)))]) sz) (cbS ad cI cJ b1 ++ [(o, .inl (cJ, 1, .inr (.inl ov1)))])) (va_A (cbS ad cI cJ b ++ [(o, .inl (cJ, 1, .inr (.inl ov)))]) sz)) 1 6 (va_A (cbS ad cI cJ b ++ [(o, .inl (cJ, 1, .inr (.inl ov)))]) sz)) ∧ (∀ sz : Nat, Met l y_M_back (.code y_M_back b_M_back 5 (some .long) :: wAll) ({ frames := 1, cells := 0, slots := 0, locals := 22 } : Room) (mu_P [.ref (ad2 0), .int a0, .int b0, .long x] (dC, dI) vwCl [(cI, .int), (cJ, .long)] (mdS ad2 cI cJ cd b) sz) (va_Ql (fun (w : Int64) (_ : Unit) => w = z1) (mu_B (dC, dI) vwCl [(cI, .int), (cJ, .long)] (va_A (mdS ad2 cI cJ cd b) sz) (mdS ad2 cI cJ k b1)) (va_A (mdS ad2 cI cJ cd b) sz)) 0 0 (va_A (mdS ad2 cI cJ cd b) sz)) ∧ (k = 0 → ov1 0 = z1) ∧ invS (t + 1) b1 := by
  obtain ⟨n, tc, ki, ra, po, se, bc, bs, op, pr, pe, pm⟩ := b
  have hv : inv t n tc ki ra po se := hv
  have hn := hv.2.1
  by_cases ha : is_k n ki a0 (nI 1)
  · obtain ⟨i, i0, hi, rfl, hki⟩ := pk_j hv (by decide) ha
    by_cases hb : is_k n ki b0 (nI 2)
    · obtain ⟨j, j0, hj, rfl, hkj⟩ := pk_j hv (by decide) hb
      have hij : i ≠ j := fun z => by rw [z, hkj] at hki; exact absurd hki (by decide)
      by_cases hx : ¬ x < (-1000000000000) ∧ ¬ 1000000000000 < x
      · exact ⟨0, po_bk po i j x i, vp_updL ov 0 (po_bk po i j x i), (n, tc, ki, ra, po_bk po i j x, se, bc, bs, op, pr, pe, pm), by decide, fun sz => w_back_y l dC dI ad cI cJ n tc ki ra po se bc bs op pr pe pm o ov sz i j x hi hj hn hki hkj hx.1 hx.2, fun sz => m_back_y l dC dI ad2 cI cJ cd n tc ki ra po se bc bs op pr pe pm sz i j x i0 j0 hi hj hn hki hkj hx.1 hx.2, fun _ => upL_s _ _ _, inv_bk hv ht hi hj hij hx.1 hx.2⟩
      · exact ⟨1, 0, ov, (n, tc, ki, ra, po, se, bc, bs, op, pr, pe, pm), by decide, fun sz => w_back_tx l dC dI ad cI cJ n tc ki ra po se bc bs op pr pe pm o ov sz i j x hi hj hn hki hkj hx hl0, fun sz => m_back_tx l dC dI ad2 cI cJ cd n tc ki ra po se bc bs op pr pe pm sz i j x i0 j0 hi hj hn hki hkj hx, fun h => absurd h (by decide), inv_mono hv⟩
    · exact ⟨1, 0, ov, (n, tc, ki, ra, po, se, bc, bs, op, pr, pe, pm), by decide, fun sz => w_back_tb l dC dI ad cI cJ n tc ki ra po se bc bs op pr pe pm o ov sz i b0 x hi hn hki hb hl0, fun sz => m_back_tb l dC dI ad2 cI cJ cd n tc ki ra po se bc bs op pr pe pm sz i b0 x i0 hi hn hki hb, fun h => absurd h (by decide), inv_mono hv⟩
  · exact ⟨1, 0, ov, (n, tc, ki, ra, po, se, bc, bs, op, pr, pe, pm), by decide, fun sz => w_back_ta l dC dI ad cI cJ n tc ki ra po se bc bs op pr pe pm o ov sz a0 b0 x hn ha hl0, fun sz => m_back_ta l dC dI ad2 cI cJ cd n tc ki ra po se bc bs op pr pe pm sz a0 b0 x hn ha, fun h => absurd h (by decide), inv_mono hv⟩

set_option maxHeartbeats 4000000 in
set_option maxRecDepth 100000 in
theorem s_reconcile (l : Launch) (hl0 : l.stackTraces = false) (dC : Nat → ClassId) (dI : Nat → Nat → Nat) (ad ad2 : Nat → Nat) (cI cJ : ClassId) (o : Nat) (ov : Nat → Int64) (cd t : Nat) (b : ST) (hv : invS t b) (ht : t < 512) (a0 k0 : Int32) (x : Int64) : ∃ (k : Nat) (z1 : Int32) (ov1 : Nat → Int64) (b1 : ST), k ≤ 2 ∧ (∀ sz : Nat, Met l y_L_reconcile (.codeWith y_L_reconcile b_L_reconcile 7 (some .int) [(0, 19, 22, 13)] :: wAll) ({ frames := 8, cells := 1, slots := 6, locals := 136 } : Room) (mx_P [.ref (ad 0), .int a0, .int k0, .long x, .ref o] (dC, dI) vwCl [(cI, .int), (cJ, .long)] (cbS ad cI cJ b ++ [(o, .inl (cJ, 1, .inr (.inl ov)))]) sz) (va_Qi (fun (z : Int32) (_ : Unit) => z = nI k) (mu_B (dC, dI) vwCl [(cI, .int), (cJ, .long)] (va_A (cbS ad cI cJ b ++ [(o, .inl (cJ, 1, .inr (.inl ov)))]) sz) (cbS ad cI cJ b1 ++ [(o, .inl (cJ, 1, .inr (.inl ov1)))])) (va_A (cbS ad cI cJ b ++ [(o, .inl (cJ, 1, .inr (.inl ov)))]) sz)) 1 6 (va_A (cbS ad cI cJ b ++ [(o, .inl (cJ, 1, .inr (.inl ov)))]) sz)) ∧ (∀ sz : Nat, Met l y_M_reconcile (.code y_M_reconcile b_M_reconcile 5 (some .boolean) :: wAll) ({ frames := 1, cells := 0, slots := 0, locals := 22 } : Room) (mu_P [.ref (ad2 0), .int a0, .int k0, .long x] (dC, dI) vwCl [(cI, .int), (cJ, .long)] (mdS ad2 cI cJ cd b) sz) (va_Qi (fun (w : Int32) (_ : Unit) => w = z1) (mu_B (dC, dI) vwCl [(cI, .int), (cJ, .long)] (va_A (mdS ad2 cI cJ cd b) sz) (mdS ad2 cI cJ k b1)) (va_A (mdS ad2 cI cJ cd b) sz)) 0 0 (va_A (mdS ad2 cI cJ cd b) sz)) ∧ (k = 0 → ov1 0 = (if z1 = 0 then 0 else 1)) ∧ invS (t + 1) b1 := by
  obtain ⟨n, tc, ki, ra, po, se, bc, bs, op, pr, pe, pm⟩ := b
  have hv : inv t n tc ki ra po se := hv
  have hn := hv.2.1
  by_cases ha : is_k n ki a0 (nI 1)
  · obtain ⟨i, i0, hi, rfl, hki⟩ := pk_j hv (by decide) ha
    by_cases hy : bc i = k0 ∧ bs i = x
    · exact ⟨0, nI 1, vp_updL ov 0 1, (n, tc, ki, ra, po, se, upd bc i (nI 0), vp_updL bs i 0, op, pr, pe, pm), by decide, fun sz => w_reconcile_y l dC dI ad cI cJ n tc ki ra po se bc bs op pr pe pm o ov sz i k0 x hi hn hki hy, fun sz => m_reconcile_y l dC dI ad2 cI cJ cd n tc ki ra po se bc bs op pr pe pm sz i k0 x i0 hi hn hki hy, fun _ => by rw [upL_s, if_neg (by decide)], inv_mono hv⟩
    · exact ⟨0, nI 0, vp_updL ov 0 0, (n, tc, ki, ra, po, se, bc, bs, op, pr, pe, pm), by decide, fun sz => w_reconcile_n l dC dI ad cI cJ n tc ki ra po se bc bs op pr pe pm o ov sz i k0 x hi hn hki hy, fun sz => m_reconcile_n l dC dI ad2 cI cJ cd n tc ki ra po se bc bs op pr pe pm sz i k0 x i0 hi hn hki hy, fun _ => by rw [upL_s, if_pos (by decide)], inv_mono hv⟩
  · exact ⟨1, nI 0, ov, (n, tc, ki, ra, po, se, bc, bs, op, pr, pe, pm), by decide, fun sz => w_reconcile_t l dC dI ad cI cJ n tc ki ra po se bc bs op pr pe pm o ov sz a0 k0 x hn ha hl0, fun sz => m_reconcile_t l dC dI ad2 cI cJ cd n tc ki ra po se bc bs op pr pe pm sz a0 k0 x hn ha, fun h => absurd h (by decide), inv_mono hv⟩

set_option maxHeartbeats 4000000 in
set_option maxRecDepth 100000 in
theorem s_batch (l : Launch) (hl0 : l.stackTraces = false) (dC : Nat → ClassId) (dI : Nat → Nat → Nat) (ad ad2 : Nat → Nat) (cI cJ : ClassId) (o : Nat) (ov : Nat → Int64) (cd t : Nat) (b : ST) (hv : invS t b) (ht : t < 512) (a0 k0 : Int32) : ∃ (k : Nat) (z1 : Int64) (ov1 : Nat → Int64) (b1 : ST), k ≤ 2 ∧ (∀ sz : Nat, Met l y_L_batch (.codeWith y_L_batch b_L_batch 5 (some .int) [(0, 9, 12, 13)] :: wAll) ({ frames := 8, cells := 1, slots := 6, locals := 134 } : Room) (mx_P [.ref (ad 0), .int a0, .int k0, .ref o] (dC, dI) vwCl [(cI, .int), (cJ, .long)] (cbS ad cI cJ b ++ [(o, .inl (cJ, 1, .inr (.inl ov)))]) sz) (va_Qi (fun (z : Int32) (_ : Unit) => z = nI k) (mu_B (dC, dI) vwCl [(cI, .int), (cJ, .long)] (va_A (cbS ad cI cJ b ++ [(o, .inl (cJ, 1, .inr (.inl ov)))]) sz) (cbS ad cI cJ b1 ++ [(o, .inl (cJ, 1, .inr (.inl ov1)))])) (va_A (cbS ad cI cJ b ++ [(o, .inl (cJ, 1, .inr (.inl ov)))]) sz)) 1 6 (va_A (cbS ad cI cJ b ++ [(o, .inl (cJ, 1, .inr (.inl ov)))]) sz)) ∧ (∀ sz : Nat, Met l y_M_batch (.code y_M_batch b_M_batch 3 (some .long) :: wAll) ({ frames := 1, cells := 0, slots := 0, locals := 22 } : Room) (mu_P [.ref (ad2 0), .int a0, .int k0] (dC, dI) vwCl [(cI, .int), (cJ, .long)] (mdS ad2 cI cJ cd b) sz) (va_Ql (fun (w : Int64) (_ : Unit) => w = z1) (mu_B (dC, dI) vwCl [(cI, .int), (cJ, .long)] (va_A (mdS ad2 cI cJ cd b) sz) (mdS ad2 cI cJ k b1)) (va_A (mdS ad2 cI cJ cd b) sz)) 0 0 (va_A (mdS ad2 cI cJ cd b) sz)) ∧ (k = 0 → ov1 0 = z1) ∧ invS (t + 1) b1 := by
  obtain ⟨n, tc, ki, ra, po, se, bc, bs, op, pr, pe, pm⟩ := b
  have hv : inv t n tc ki ra po se := hv
  have hn := hv.2.1
  by_cases ha : is_k n ki a0 (nI 1)
  · obtain ⟨i, i0, hi, rfl, hki⟩ := pk_j hv (by decide) ha
    by_cases h0 : k0 = nI 0
    · subst h0
      exact ⟨0, (bc i).toInt64, vp_updL ov 0 ((bc i).toInt64), (n, tc, ki, ra, po, se, bc, bs, op, pr, pe, pm), by decide, fun sz => w_batch_y0 l dC dI ad cI cJ n tc ki ra po se bc bs op pr pe pm o ov sz i hi hn hki, fun sz => m_batch_y0 l dC dI ad2 cI cJ cd n tc ki ra po se bc bs op pr pe pm sz i i0 hi hn hki, fun _ => upL_s _ _ _, inv_mono hv⟩
    · by_cases h1 : k0 = nI 1
      · subst h1
        exact ⟨0, bs i, vp_updL ov 0 (bs i), (n, tc, ki, ra, po, se, bc, bs, op, pr, pe, pm), by decide, fun sz => w_batch_y1 l dC dI ad cI cJ n tc ki ra po se bc bs op pr pe pm o ov sz i hi hn hki, fun sz => m_batch_y1 l dC dI ad2 cI cJ cd n tc ki ra po se bc bs op pr pe pm sz i i0 hi hn hki, fun _ => upL_s _ _ _, inv_mono hv⟩
      · exact ⟨1, 0, ov, (n, tc, ki, ra, po, se, bc, bs, op, pr, pe, pm), by decide, fun sz => w_batch_tw l dC dI ad cI cJ n tc ki ra po se bc bs op pr pe pm o ov sz i k0 hi hn hki h0 h1 hl0, fun sz => m_batch_tw l dC dI ad2 cI cJ cd n tc ki ra po se bc bs op pr pe pm sz i k0 i0 hi hn hki h0 h1, fun h => absurd h (by decide), inv_mono hv⟩
  · exact ⟨1, 0, ov, (n, tc, ki, ra, po, se, bc, bs, op, pr, pe, pm), by decide, fun sz => w_batch_tk l dC dI ad cI cJ n tc ki ra po se bc bs op pr pe pm o ov sz a0 k0 hn ha hl0, fun sz => m_batch_tk l dC dI ad2 cI cJ cd n tc ki ra po se bc bs op pr pe pm sz a0 k0 hn ha, fun h => absurd h (by decide), inv_mono hv⟩

set_option maxHeartbeats 4000000 in
set_option maxRecDepth 100000 in
theorem s_transfer (l : Launch) (hl0 : l.stackTraces = false) (dC : Nat → ClassId) (dI : Nat → Nat → Nat) (ad ad2 : Nat → Nat) (cI cJ : ClassId) (o : Nat) (ov : Nat → Int64) (cd t : Nat) (b : ST) (hv : invS t b) (ht : t < 512) (a0 k0 : Int32) : ∃ (k : Nat) (z1 : Int64) (ov1 : Nat → Int64) (b1 : ST), k ≤ 2 ∧ (∀ sz : Nat, Met l y_L_transfer (.codeWith y_L_transfer b_L_transfer 5 (some .int) [(0, 9, 12, 13)] :: wAll) ({ frames := 7, cells := 1, slots := 6, locals := 112 } : Room) (mx_P [.ref (ad 0), .int a0, .int k0, .ref o] (dC, dI) vwCl [(cI, .int), (cJ, .long)] (cbS ad cI cJ b ++ [(o, .inl (cJ, 1, .inr (.inl ov)))]) sz) (va_Qi (fun (z : Int32) (_ : Unit) => z = nI k) (mu_B (dC, dI) vwCl [(cI, .int), (cJ, .long)] (va_A (cbS ad cI cJ b ++ [(o, .inl (cJ, 1, .inr (.inl ov)))]) sz) (cbS ad cI cJ b1 ++ [(o, .inl (cJ, 1, .inr (.inl ov1)))])) (va_A (cbS ad cI cJ b ++ [(o, .inl (cJ, 1, .inr (.inl ov)))]) sz)) 1 6 (va_A (cbS ad cI cJ b ++ [(o, .inl (cJ, 1, .inr (.inl ov)))]) sz)) ∧ (∀ sz : Nat, Met l y_M_transfer (.code y_M_transfer b_M_transfer 3 (some .long) :: wAll) ({ frames := 1, cells := 0, slots := 0, locals := 21 } : Room) (mu_P [.ref (ad2 0), .int a0, .int k0] (dC, dI) vwCl [(cI, .int), (cJ, .long)] (mdS ad2 cI cJ cd b) sz) (va_Ql (fun (w : Int64) (_ : Unit) => w = z1) (mu_B (dC, dI) vwCl [(cI, .int), (cJ, .long)] (va_A (mdS ad2 cI cJ cd b) sz) (mdS ad2 cI cJ k b1)) (va_A (mdS ad2 cI cJ cd b) sz)) 0 0 (va_A (mdS ad2 cI cJ cd b) sz)) ∧ (k = 0 → ov1 0 = z1) ∧ invS (t + 1) b1 := by
  obtain ⟨n, tc, ki, ra, po, se, bc, bs, op, pr, pe, pm⟩ := b
  have hv : inv t n tc ki ra po se := hv
  have hn := hv.2.1
  have htc := hv.2.2.1
  by_cases ha : ¬ a0 < 0 ∧ a0 < nI tc
  · obtain ⟨i, hi31, rfl⟩ := nI_of ha.1
    have hi : i < tc := (nI_ltI hi31 (by omega)).mp ha.2
    by_cases hw : k0.toInt < 0 ∨ 2 < k0.toInt
    · exact ⟨1, 0, ov, (n, tc, ki, ra, po, se, bc, bs, op, pr, pe, pm), by decide, fun sz => w_transfer_tw l dC dI ad cI cJ n tc ki ra po se bc bs op pr pe pm o ov sz i k0 hi htc hw hl0, fun sz => m_transfer_tw l dC dI ad2 cI cJ cd n tc ki ra po se bc bs op pr pe pm sz i k0 hi htc hw, fun h => absurd h (by decide), inv_mono hv⟩
    · obtain ⟨q, hq, rfl⟩ : ∃ q : Nat, q ≤ 2 ∧ k0 = nI q := by
        obtain ⟨q, hq, e⟩ := nI_of (x := k0) (fun z => hw (Or.inl (by simpa using Int32.lt_iff_toInt_lt.mp z)))
        refine ⟨q, ?_, e⟩
        have e2 : k0.toInt = q := by rw [e, nI_toInt hq]
        omega
      match q, hq with
      | 0, _ => exact ⟨0, (pr i).toInt64, vp_updL ov 0 ((pr i).toInt64), (n, tc, ki, ra, po, se, bc, bs, op, pr, pe, pm), by decide, fun sz => w_transfer_y0 l dC dI ad cI cJ n tc ki ra po se bc bs op pr pe pm o ov sz i hi htc, fun sz => m_transfer_y0 l dC dI ad2 cI cJ cd n tc ki ra po se bc bs op pr pe pm sz i hi htc, fun _ => upL_s _ _ _, inv_mono hv⟩
      | 1, _ => exact ⟨0, (pe i).toInt64, vp_updL ov 0 ((pe i).toInt64), (n, tc, ki, ra, po, se, bc, bs, op, pr, pe, pm), by decide, fun sz => w_transfer_y1 l dC dI ad cI cJ n tc ki ra po se bc bs op pr pe pm o ov sz i hi htc, fun sz => m_transfer_y1 l dC dI ad2 cI cJ cd n tc ki ra po se bc bs op pr pe pm sz i hi htc, fun _ => upL_s _ _ _, inv_mono hv⟩
      | 2, _ => exact ⟨0, pm i, vp_updL ov 0 (pm i), (n, tc, ki, ra, po, se, bc, bs, op, pr, pe, pm), by decide, fun sz => w_transfer_y2 l dC dI ad cI cJ n tc ki ra po se bc bs op pr pe pm o ov sz i hi htc, fun sz => m_transfer_y2 l dC dI ad2 cI cJ cd n tc ki ra po se bc bs op pr pe pm sz i hi htc, fun _ => upL_s _ _ _, inv_mono hv⟩
      | q + 3, h => exact absurd h (by omega)
  · exact ⟨1, 0, ov, (n, tc, ki, ra, po, se, bc, bs, op, pr, pe, pm), by decide, fun sz => w_transfer_tk l dC dI ad cI cJ n tc ki ra po se bc bs op pr pe pm o ov sz a0 k0 ha hl0, fun sz => m_transfer_tk l dC dI ad2 cI cJ cd n tc ki ra po se bc bs op pr pe pm sz a0 k0 ha, fun h => absurd h (by decide), inv_mono hv⟩

set_option maxHeartbeats 4000000 in
set_option maxRecDepth 100000 in
theorem s_party (l : Launch) (hl0 : l.stackTraces = false) (dC : Nat → ClassId) (dI : Nat → Nat → Nat) (ad ad2 : Nat → Nat) (cI cJ : ClassId) (o : Nat) (ov : Nat → Int64) (cd t : Nat) (b : ST) (hv : invS t b) (ht : t < 512) (a0 k0 : Int32) : ∃ (k : Nat) (z1 : Int64) (ov1 : Nat → Int64) (b1 : ST), k ≤ 2 ∧ (∀ sz : Nat, Met l y_L_party (.codeWith y_L_party b_L_party 5 (some .int) [(0, 9, 12, 13)] :: wAll) ({ frames := 7, cells := 1, slots := 6, locals := 112 } : Room) (mx_P [.ref (ad 0), .int a0, .int k0, .ref o] (dC, dI) vwCl [(cI, .int), (cJ, .long)] (cbS ad cI cJ b ++ [(o, .inl (cJ, 1, .inr (.inl ov)))]) sz) (va_Qi (fun (z : Int32) (_ : Unit) => z = nI k) (mu_B (dC, dI) vwCl [(cI, .int), (cJ, .long)] (va_A (cbS ad cI cJ b ++ [(o, .inl (cJ, 1, .inr (.inl ov)))]) sz) (cbS ad cI cJ b1 ++ [(o, .inl (cJ, 1, .inr (.inl ov1)))])) (va_A (cbS ad cI cJ b ++ [(o, .inl (cJ, 1, .inr (.inl ov)))]) sz)) 1 6 (va_A (cbS ad cI cJ b ++ [(o, .inl (cJ, 1, .inr (.inl ov)))]) sz)) ∧ (∀ sz : Nat, Met l y_M_party (.code y_M_party b_M_party 5 (some .long) :: wAll) ({ frames := 1, cells := 0, slots := 0, locals := 21 } : Room) (mu_P [.ref (ad2 0), .int a0, .int k0] (dC, dI) vwCl [(cI, .int), (cJ, .long)] (mdS ad2 cI cJ cd b) sz) (va_Ql (fun (w : Int64) (_ : Unit) => w = z1) (mu_B (dC, dI) vwCl [(cI, .int), (cJ, .long)] (va_A (mdS ad2 cI cJ cd b) sz) (mdS ad2 cI cJ k b1)) (va_A (mdS ad2 cI cJ cd b) sz)) 0 0 (va_A (mdS ad2 cI cJ cd b) sz)) ∧ (k = 0 → ov1 0 = z1) ∧ invS (t + 1) b1 := by
  obtain ⟨n, tc, ki, ra, po, se, bc, bs, op, pr, pe, pm⟩ := b
  have hv : inv t n tc ki ra po se := hv
  have hn := hv.2.1
  have htc := hv.2.2.1
  by_cases ha : ¬ a0 < 0 ∧ a0 < nI n
  · obtain ⟨i, hi31, rfl⟩ := nI_of ha.1
    have hi : i < n := (nI_ltI hi31 (by omega)).mp ha.2
    by_cases hw : k0.toInt < 0 ∨ 4 < k0.toInt
    · exact ⟨1, 0, ov, (n, tc, ki, ra, po, se, bc, bs, op, pr, pe, pm), by decide, fun sz => w_party_tw l dC dI ad cI cJ n tc ki ra po se bc bs op pr pe pm o ov sz i k0 hi hn hw hl0, fun sz => m_party_tw l dC dI ad2 cI cJ cd n tc ki ra po se bc bs op pr pe pm sz i k0 hi hn hw, fun h => absurd h (by decide), inv_mono hv⟩
    · obtain ⟨q, hq, rfl⟩ : ∃ q : Nat, q ≤ 4 ∧ k0 = nI q := by
        obtain ⟨q, hq, e⟩ := nI_of (x := k0) (fun z => hw (Or.inl (by simpa using Int32.lt_iff_toInt_lt.mp z)))
        refine ⟨q, ?_, e⟩
        have e2 : k0.toInt = q := by rw [e, nI_toInt hq]
        omega
      match q, hq with
      | 0, _ => exact ⟨0, po i, vp_updL ov 0 (po i), (n, tc, ki, ra, po, se, bc, bs, op, pr, pe, pm), by decide, fun sz => w_party_y0 l dC dI ad cI cJ n tc ki ra po se bc bs op pr pe pm o ov sz i hi hn, fun sz => m_party_y0 l dC dI ad2 cI cJ cd n tc ki ra po se bc bs op pr pe pm sz i hi hn, fun _ => upL_s _ _ _, inv_mono hv⟩
      | 1, _ => exact ⟨0, se i, vp_updL ov 0 (se i), (n, tc, ki, ra, po, se, bc, bs, op, pr, pe, pm), by decide, fun sz => w_party_y1 l dC dI ad cI cJ n tc ki ra po se bc bs op pr pe pm o ov sz i hi hn, fun sz => m_party_y1 l dC dI ad2 cI cJ cd n tc ki ra po se bc bs op pr pe pm sz i hi hn, fun _ => upL_s _ _ _, inv_mono hv⟩
      | 2, _ => exact ⟨0, (ki i).toInt64, vp_updL ov 0 ((ki i).toInt64), (n, tc, ki, ra, po, se, bc, bs, op, pr, pe, pm), by decide, fun sz => w_party_y2 l dC dI ad cI cJ n tc ki ra po se bc bs op pr pe pm o ov sz i hi hn, fun sz => m_party_y2 l dC dI ad2 cI cJ cd n tc ki ra po se bc bs op pr pe pm sz i hi hn, fun _ => upL_s _ _ _, inv_mono hv⟩
      | 3, _ => exact ⟨0, (ra i).toInt64, vp_updL ov 0 ((ra i).toInt64), (n, tc, ki, ra, po, se, bc, bs, op, pr, pe, pm), by decide, fun sz => w_party_y3 l dC dI ad cI cJ n tc ki ra po se bc bs op pr pe pm o ov sz i hi hn, fun sz => m_party_y3 l dC dI ad2 cI cJ cd n tc ki ra po se bc bs op pr pe pm sz i hi hn, fun _ => upL_s _ _ _, inv_mono hv⟩
      | 4, _ => exact ⟨0, (nI (pl po i n)).toInt64, vp_updL ov 0 ((nI (pl po i n)).toInt64), (n, tc, ki, ra, po, se, bc, bs, op, pr, pe, pm), by decide, fun sz => w_party_y4 l dC dI ad cI cJ n tc ki ra po se bc bs op pr pe pm o ov sz i hi hn, fun sz => m_party_y4 l dC dI ad2 cI cJ cd n tc ki ra po se bc bs op pr pe pm sz i hi hn, fun _ => upL_s _ _ _, inv_mono hv⟩
      | q + 5, h => exact absurd h (by omega)
  · exact ⟨1, 0, ov, (n, tc, ki, ra, po, se, bc, bs, op, pr, pe, pm), by decide, fun sz => w_party_tk l dC dI ad cI cJ n tc ki ra po se bc bs op pr pe pm o ov sz a0 k0 ha hl0, fun sz => m_party_tk l dC dI ad2 cI cJ cd n tc ki ra po se bc bs op pr pe pm sz a0 k0 ha, fun h => absurd h (by decide), inv_mono hv⟩

