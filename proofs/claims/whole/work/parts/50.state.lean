/-! what both sides are, as one value; what holds of it behind t calls -/
section XS
abbrev ST : Type := Nat × Nat × (Nat → Int32) × (Nat → Int32) × (Nat → Int64) × (Nat → Int64) × (Nat → Int32) × (Nat → Int64) × (Nat → Int64) × (Nat → Int32) × (Nat → Int32) × (Nat → Int64)
abbrev cbS (ad : Nat → Nat) (cI cJ : ClassId) (b : ST) : va_W := cb_w ad cI cJ b.1 b.2.1 b.2.2.1 b.2.2.2.1 b.2.2.2.2.1 b.2.2.2.2.2.1 b.2.2.2.2.2.2.1 b.2.2.2.2.2.2.2.1 b.2.2.2.2.2.2.2.2.1 b.2.2.2.2.2.2.2.2.2.1 b.2.2.2.2.2.2.2.2.2.2.1 b.2.2.2.2.2.2.2.2.2.2.2
abbrev mdS (ad : Nat → Nat) (cI cJ : ClassId) (cd : Nat) (b : ST) : va_W := md_w ad cI cJ cd b.1 b.2.1 b.2.2.1 b.2.2.2.1 b.2.2.2.2.1 b.2.2.2.2.2.1 b.2.2.2.2.2.2.1 b.2.2.2.2.2.2.2.1 b.2.2.2.2.2.2.2.2.1 b.2.2.2.2.2.2.2.2.2.1 b.2.2.2.2.2.2.2.2.2.2.1 b.2.2.2.2.2.2.2.2.2.2.2
def inv (t n tc : Nat) (ki ra : Nat → Int32) (po se : Nat → Int64) : Prop :=
  1 ≤ n ∧ n ≤ 15 ∧ tc ≤ 14 ∧ ki 0 = nI 0 ∧ (∀ q, q < n → ∃ r, r ≤ 1000 ∧ ra q = nI r) ∧ si po n = 0 ∧ (∀ q, -((t : Int) * 1000000000000) ≤ (po q).toInt ∧ (po q).toInt ≤ (t : Int) * 1000000000000) ∧ (∀ q, n ≤ q → po q = 0 ∧ se q = 0) ∧ sm se n = 0
def invS (t : Nat) (b : ST) : Prop := inv t b.1 b.2.1 b.2.2.1 b.2.2.2.1 b.2.2.2.2.1 b.2.2.2.2.2.1
variable {t n tc : Nat} {ki ra : Nat → Int32} {po se : Nat → Int64}
theorem inv_mono (h : inv t n tc ki ra po se) : inv (t + 1) n tc ki ra po se := by
  obtain ⟨h1, h2, h3, h4, h5, h6, h7, h8, h9⟩ := h
  refine ⟨h1, h2, h3, h4, h5, h6, fun q => ?_, h8, h9⟩
  have := h7 q
  omega
theorem inv_sml (h : inv t n tc ki ra po se) (ht : t ≤ 512) : sml po n := by
  obtain ⟨-, -, -, -, -, -, h7, -, -⟩ := h
  intro q _
  have := h7 q
  omega
theorem inv_enter {k : Int32} {r : Nat} (h : inv t n tc ki ra po se) (hn : n < 15) (hr : r ≤ 1000) : inv (t + 1) (n + 1) tc (upd ki n k) (upd ra n (nI r)) po se := by
  obtain ⟨h1, h2, h3, h4, h5, h6, h7, h8, h9⟩ := inv_mono h
  refine ⟨by omega, by omega, h3, ?_, fun q hq => ?_, ?_, h7, fun q hq => h8 q (by omega), ?_⟩
  · rw [pk_un (by omega)]; exact h4
  · by_cases e : q = n
    · exact ⟨r, hr, by rw [e, pk_us]⟩
    · rw [pk_un e]; exact h5 q (by omega)
  · show si po n + (po n).toInt = 0
    rw [h6, (h8 n (Nat.le_refl n)).1]
    rfl
  · show sm se n + se n = 0
    rw [h9, (h8 n (Nat.le_refl n)).2]
    rfl
/-- two and three places written -/
theorem pk_j {k : Int32} (h : inv t n tc ki ra po se) (hk : k ≠ nI 0) {x : Int32} (hx : is_k n ki x k) : ∃ j, 0 < j ∧ j < n ∧ x = nI j ∧ ki j = k := by
  obtain ⟨j, a, b, c⟩ := hx
  refine ⟨j, ?_, a, b, c⟩
  rcases Nat.eq_zero_or_pos j with z | z
  · exfalso
    rw [z, h.2.2.2.1] at c
    exact hk c.symm
  · exact z
theorem inv_po {po' : Nat → Int64} (h : inv t n tc ki ra po se) (hs : si po' n = 0) (hb : ∀ q, -(((t + 1 : Nat) : Int) * 1000000000000) ≤ (po' q).toInt ∧ (po' q).toInt ≤ ((t + 1 : Nat) : Int) * 1000000000000) (hz : ∀ q, n ≤ q → po' q = po q) : inv (t + 1) n tc ki ra po' se := by
  obtain ⟨h1, h2, h3, h4, h5, h6, h7, h8, h9⟩ := h
  exact ⟨h1, h2, h3, h4, h5, hs, hb, fun q hq => ⟨by rw [hz q hq]; exact (h8 q hq).1, (h8 q hq).2⟩, h9⟩
theorem add_i {a b : Int64} (h1 : -9000000000000000000 ≤ a.toInt + b.toInt) (h2 : a.toInt + b.toInt ≤ 9000000000000000000) : (a + b).toInt = a.toInt + b.toInt := by
  rw [Int64.toInt_add]
  exact Jvm.Kit.bmod64 (by omega) (by omega)
theorem sub_i {a b : Int64} (h1 : -9000000000000000000 ≤ a.toInt - b.toInt) (h2 : a.toInt - b.toInt ≤ 9000000000000000000) : (a - b).toInt = a.toInt - b.toInt := by
  rw [Int64.toInt_sub]
  exact Jvm.Kit.bmod64 (by omega) (by omega)
theorem inv_bk {i j : Nat} {x : Int64} (h : inv t n tc ki ra po se) (ht : t < 512) (hi : i < n) (hj : j < n) (hij : i ≠ j) (h1 : ¬ x < (-1000000000000)) (h2 : ¬ 1000000000000 < x) : inv (t + 1) n tc ki ra (po_bk po i j x) se := by
  have x1 : -1000000000000 ≤ x.toInt := by
    have := Int64.le_iff_toInt_le.mp (Int64.not_lt.mp h1)
    simpa using this
  have x2 : x.toInt ≤ 1000000000000 := by
    have := Int64.le_iff_toInt_le.mp (Int64.not_lt.mp h2)
    simpa using this
  have hb := h.2.2.2.2.2.2.1
  have bi := hb i
  have bj := hb j
  have e1 : vp_updL po i (po i - x) j = po j := upL_n (fun z => hij z.symm)
  have ei : (po i - x).toInt = (po i).toInt - x.toInt := sub_i (by omega) (by omega)
  have ej : (po j + x).toInt = (po j).toInt + x.toInt := add_i (by omega) (by omega)
  unfold po_bk
  rw [e1]
  refine inv_po h ?_ (fun q => ?_) (fun q hq => ?_)
  · rw [si_up n hj, si_up n hi, e1, ei, ej, h.2.2.2.2.2.1]
    omega
  · have bq := hb q
    by_cases z1 : q = j
    · rw [z1, upL_s, ej]; omega
    · rw [upL_n z1]
      by_cases z2 : q = i
      · rw [z2, upL_s, ei]; omega
      · rw [upL_n z2]; omega
  · rw [upL_n (by omega), upL_n (by omega)]
theorem inv_cl {i j : Nat} {x cg dn : Int64} (h : inv t n tc ki ra po se) (ht : t < 512) (hi0 : 0 < i) (hj0 : 0 < j) (hi : i < n) (hj : j < n) (hij : i ≠ j) (x1 : 1 ≤ x.toInt) (x2 : x.toInt ≤ 1000000000000) (c1 : 0 ≤ cg.toInt) (c2 : cg.toInt ≤ x.toInt) (d1 : 0 ≤ dn.toInt) (d2 : dn.toInt ≤ x.toInt) : inv (t + 1) n tc ki ra (po_cl po i j x cg dn) se := by
  have hb := h.2.2.2.2.2.2.1
  have bi := hb i
  have bj := hb j
  have b0 := hb 0
  have f1 : (x - cg).toInt = x.toInt - cg.toInt := sub_i (by omega) (by omega)
  have f2 : (dn - x).toInt = dn.toInt - x.toInt := sub_i (by omega) (by omega)
  have f3 : (cg - dn).toInt = cg.toInt - dn.toInt := sub_i (by omega) (by omega)
  have ei : (po i + (x - cg)).toInt = (po i).toInt + (x.toInt - cg.toInt) := by rw [add_i (by omega) (by omega), f1]
  have ej : (po j + (dn - x)).toInt = (po j).toInt + (dn.toInt - x.toInt) := by rw [add_i (by omega) (by omega), f2]
  have e0 : (po 0 + (cg - dn)).toInt = (po 0).toInt + (cg.toInt - dn.toInt) := by rw [add_i (by omega) (by omega), f3]
  have g1 : vp_updL po i (po i + (x - cg)) j = po j := upL_n (fun z => hij z.symm)
  have g2 : vp_updL (vp_updL po i (po i + (x - cg))) j (po j + (dn - x)) 0 = po 0 := by rw [upL_n (by omega), upL_n (by omega)]
  unfold po_cl
  rw [g1, g2]
  refine inv_po h ?_ (fun q => ?_) (fun q hq => ?_)
  · rw [si_up n (by omega), si_up n hj, si_up n hi, g1, g2, ei, ej, e0, h.2.2.2.2.2.1]
    omega
  · have bq := hb q
    by_cases z0 : q = 0
    · rw [z0, upL_s, e0]; omega
    · rw [upL_n z0]
      by_cases z1 : q = j
      · rw [z1, upL_s, ej]; omega
      · rw [upL_n z1]
        by_cases z2 : q = i
        · rw [z2, upL_s, ei]; omega
        · rw [upL_n z2]; omega
  · rw [upL_n (by omega), upL_n (by omega), upL_n (by omega)]
theorem trs_le (n : Nat) : ∀ (k : Nat) (u : TT), (trs n k u).1 ≤ u.1 + k
  | 0, u => Nat.le_refl _
  | k + 1, u => by
    show (if 0 ≤ u.2.1 (am u.2.1 (n - 1)) then u else trs n k (tr1 n u)).1 ≤ _
    split
    · omega
    · have h9 := trs_le n k (tr1 n u)
      have h8 : (tr1 n u).1 = u.1 + 1 := rfl
      omega
theorem sm_si (f : Nat → Int64) : ∀ n, sm f n = Int64.ofInt (si f n)
  | 0 => rfl
  | n + 1 => by
    show sm f n + f n = Int64.ofInt (si f n + (f n).toInt)
    rw [sm_si f n, Int64.ofInt_add, Int64.ofInt_toInt]
theorem inv_sm (h : inv t n tc ki ra po se) : sm po n = 0 := by
  rw [sm_si, h.2.2.2.2.2.1]
  rfl
theorem sm_add (f g : Nat → Int64) : ∀ n, sm (fun q => f q + g q) n = sm f n + sm g n
  | 0 => rfl
  | n + 1 => by
    show sm (fun q => f q + g q) n + (f n + g n) = sm f n + f n + (sm g n + g n)
    have e4 : ∀ a b c d : Int64, a + b + (c + d) = a + c + (b + d) := by
      intro a b c d
      rw [Int64.add_assoc a b, ← Int64.add_assoc b c, Int64.add_comm b c, Int64.add_assoc c b, ← Int64.add_assoc a c]
    rw [sm_add f g n]
    exact e4 _ _ _ _
theorem sm_eq {f g : Nat → Int64} : ∀ n, (∀ q, q < n → f q = g q) → sm f n = sm g n
  | 0, _ => rfl
  | n + 1, h => by
    show sm f n + _ = sm g n + _
    rw [sm_eq n (fun q hq => h q (by omega)), h n (by omega)]
theorem si_0 : ∀ n, si (fun _ => 0) n = 0
  | 0 => rfl
  | n + 1 => by
    show si (fun _ => 0) n + _ = 0
    rw [si_0 n]
    rfl
theorem inv_st {u : TT} (h : inv t n tc ki ra po se) (hu : u.1 = 0) : inv (t + 1) n (trs n 14 u).1 ki ra (cpy n (fun _ => 0) po) (cpy n (fun q => se q + po q) se) := by
  have hm := inv_sm h
  obtain ⟨h1, h2, h3, h4, h5, h6, h7, h8, h9⟩ := inv_mono h
  refine ⟨h1, h2, by have := trs_le n 14 u; omega, h4, h5, by rw [si_cpy]; exact si_0 n, fun q => ?_, fun q hq => ?_, ?_⟩
  · unfold cpy
    split
    · show _ ≤ (0 : Int64).toInt ∧ (0 : Int64).toInt ≤ _
      rw [Int64.toInt_zero]
      omega
    · exact h7 q
  · have hq' : ¬ q < n := by omega
    simp only [cpy, hq', if_false]
    exact h8 q hq
  · rw [sm_eq n (g := fun q => se q + po q) (fun q hq => cpy_in hq), sm_add, h9, hm]
    rfl
/-- the numbers of a clearing -/
theorem rate_i {r : Nat} (hr : r ≤ 1000) : (nI r).toInt64.toInt = r := by rw [nI_l (by omega), lN_toInt (by omega)]
theorem mul_i {a b : Int64} (h1 : 0 ≤ a.toInt * b.toInt) (h2 : a.toInt * b.toInt ≤ 9000000000000000000) : (a * b).toInt = a.toInt * b.toInt := by
  rw [Int64.toInt_mul]
  exact Jvm.Kit.bmod64 (by omega) (by omega)
theorem k_1e4 : (10000 : Int64).toInt = 10000 := by decide
theorem cg_ok {x : Int64} {k : Int32} {K : Nat} (x1 : 1 ≤ x.toInt) (x2 : x.toInt ≤ 1000000000000) (hk : k.toInt64.toInt = K) (hK : K ≤ 2000) : 0 ≤ (cgv x k).toInt ∧ (cgv x k).toInt ≤ x.toInt ∧ mcv x k = cgv x k := by
  have m0 : 0 ≤ x.toInt * (K : Int) := Int.mul_nonneg (by omega) (by omega)
  have m2 : x.toInt * (K : Int) ≤ x.toInt * 2000 := Int.mul_le_mul_of_nonneg_left (by omega) (by omega)
  have em : (x * k.toInt64).toInt = x.toInt * K := by rw [mul_i (by rw [hk]; exact m0) (by rw [hk]; omega), hk]
  generalize hw : x * k.toInt64 = w at em
  generalize hy : x.toInt * (K : Int) = Y at em m0 m2
  have ea : (w + 10000).toInt = Y + 10000 := by rw [add_i (by rw [em, k_1e4]; omega) (by rw [em, k_1e4]; omega), em, k_1e4]
  have eb : (w + 10000 - 1).toInt = Y + 9999 := by
    rw [sub_i (by rw [ea]; show _ ≤ _ - (1 : Int); omega) (by rw [ea]; show _ - (1 : Int) ≤ _; omega), ea]
    show Y + 10000 - 1 = _
    omega
  have ec : (cgv x k).toInt = (Y + 9999) / 10000 := by
    unfold cgv
    rw [hw, lg_ldiv_nonneg (by rw [eb]; omega) (by rw [k_1e4]; omega), eb, k_1e4]
  have ed : (w / 10000).toInt = Y / 10000 := by rw [lg_ldiv_nonneg (by rw [em]; omega) (by rw [k_1e4]; omega), em, k_1e4]
  have ee : (w / 10000 * 10000).toInt = Y / 10000 * 10000 := by
    rw [mul_i (by rw [ed, k_1e4]; omega) (by rw [ed, k_1e4]; omega), ed, k_1e4]
  refine ⟨by rw [ec]; omega, by rw [ec]; omega, ?_⟩
  refine Int64.toInt_inj.mp ?_
  rw [ec]
  unfold mcv
  rw [hw]
  by_cases hc : w ≤ w / 10000 * 10000
  · have hc' := Int64.le_iff_toInt_le.mp hc
    rw [em, ee] at hc'
    rw [if_pos hc, Int64.add_zero, ed]
    omega
  · have hc' : ¬ Y ≤ Y / 10000 * 10000 := fun z => hc (Int64.le_iff_toInt_le.mpr (by rw [em, ee]; exact z))
    rw [if_neg hc, add_i (by rw [ed]; show _ ≤ _ + (1 : Int); omega) (by rw [ed]; show _ + (1 : Int) ≤ _; omega), ed]
    show Y / 10000 + 1 = _
    omega
theorem dn_ok {x : Int64} {k : Int32} {K : Nat} (x1 : 1 ≤ x.toInt) (x2 : x.toInt ≤ 1000000000000) (hk : k.toInt64.toInt = K) (hK : K ≤ 1000) : 0 ≤ (dnv x k).toInt ∧ (dnv x k).toInt ≤ x.toInt := by
  have m0 : 0 ≤ x.toInt * (K : Int) := Int.mul_nonneg (by omega) (by omega)
  have m2 : x.toInt * (K : Int) ≤ x.toInt * 1000 := Int.mul_le_mul_of_nonneg_left (by omega) (by omega)
  have em : (x * k.toInt64).toInt = x.toInt * K := by rw [mul_i (by rw [hk]; exact m0) (by rw [hk]; omega), hk]
  generalize hy : x.toInt * (K : Int) = Y at em m0 m2
  have ed : (dnv x k).toInt = Y / 10000 := by
    unfold dnv
    rw [lg_ldiv_nonneg (by rw [em]; omega) (by rw [k_1e4]; omega), em, k_1e4]
  rw [ed]
  omega
end XS
