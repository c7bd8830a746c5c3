/-! settling ends: with a sum of 0 every transfer leaves one fewer that is off 0 -/
section XN
def si (f : Nat → Int64) : Nat → Int
  | 0 => 0
  | i + 1 => si f i + (f i).toInt
def cz (f : Nat → Int64) : Nat → Nat
  | 0 => 0
  | i + 1 => cz f i + (if f i = 0 then 0 else 1)
theorem upL_s (f : Nat → Int64) (i : Nat) (v : Int64) : vp_updL f i v i = v := by simp [vp_updL]
theorem upL_n {f : Nat → Int64} {i q : Nat} {v : Int64} (h : q ≠ i) : vp_updL f i v q = f q := by simp [vp_updL, h]
theorem si_out {f : Nat → Int64} {i : Nat} {v : Int64} : ∀ n, n ≤ i → si (vp_updL f i v) n = si f n
  | 0, _ => rfl
  | n + 1, h => by
    have h1 := si_out (f := f) (i := i) (v := v) n (by omega)
    have h2 : vp_updL f i v n = f n := upL_n (by omega)
    show si (vp_updL f i v) n + _ = si f n + _
    rw [h1, h2]
theorem si_up {f : Nat → Int64} {i : Nat} {v : Int64} : ∀ n, i < n → si (vp_updL f i v) n = si f n + (v.toInt - (f i).toInt)
  | 0, h => absurd h (by omega)
  | n + 1, h => by
    show si (vp_updL f i v) n + (vp_updL f i v n).toInt = si f n + (f n).toInt + _
    by_cases h1 : i = n
    · subst h1
      rw [si_out i (Nat.le_refl i), upL_s]
      omega
    · rw [si_up n (by omega), upL_n (by omega)]
      omega
theorem cz_out {f : Nat → Int64} {i : Nat} {v : Int64} : ∀ n, n ≤ i → cz (vp_updL f i v) n = cz f n
  | 0, _ => rfl
  | n + 1, h => by
    have h1 := cz_out (f := f) (i := i) (v := v) n (by omega)
    have h2 : vp_updL f i v n = f n := upL_n (by omega)
    show cz (vp_updL f i v) n + _ = cz f n + _
    rw [h1, h2]
theorem cz_up {f : Nat → Int64} {i : Nat} {v : Int64} : ∀ n, i < n → cz (vp_updL f i v) n + (if f i = 0 then 0 else 1) = cz f n + (if v = 0 then 0 else 1)
  | 0, h => absurd h (by omega)
  | n + 1, h => by
    show cz (vp_updL f i v) n + (if vp_updL f i v n = 0 then 0 else 1) + _ = cz f n + (if f n = 0 then 0 else 1) + _
    by_cases h1 : i = n
    · subst h1
      rw [cz_out i (Nat.le_refl i), upL_s]
      omega
    · have h2 := cz_up (f := f) (v := v) n (show i < n by omega)
      rw [upL_n (show n ≠ i by omega)]
      omega
theorem cz_le (f : Nat → Int64) : ∀ n, cz f n ≤ n
  | 0 => Nat.le_refl _
  | n + 1 => by
    have h := cz_le f n
    show cz f n + (if f n = 0 then 0 else 1) ≤ n + 1
    split <;> omega
theorem cz_0 {f : Nat → Int64} : ∀ n, cz f n = 0 → si f n = 0 ∧ ∀ q, q < n → f q = 0
  | 0, _ => ⟨rfl, fun q h => absurd h (by omega)⟩
  | n + 1, h => by
    have h' : cz f n + (if f n = 0 then 0 else 1) = 0 := h
    by_cases h1 : f n = 0
    · rw [if_pos h1] at h'
      obtain ⟨a, b⟩ := cz_0 n (by omega)
      refine ⟨by show si f n + _ = 0; rw [a, h1]; rfl, fun q hq => ?_⟩
      by_cases h2 : q = n
      · rw [h2]; exact h1
      · exact b q (by omega)
    · rw [if_neg h1] at h'
      omega
theorem cz_1 {f : Nat → Int64} : ∀ n, cz f n ≤ 1 → si f n = 0 → cz f n = 0
  | 0, _, _ => rfl
  | n + 1, h, hs => by
    have h' : cz f n + (if f n = 0 then 0 else 1) ≤ 1 := h
    have hs' : si f n + (f n).toInt = 0 := hs
    show cz f n + (if f n = 0 then 0 else 1) = 0
    by_cases h1 : f n = 0
    · rw [if_pos h1] at h' ⊢
      rw [h1] at hs'
      have := cz_1 n (by omega) (by simpa using hs')
      omega
    · rw [if_neg h1] at h'
      obtain ⟨a, -⟩ := cz_0 (f := f) n (by omega)
      rw [a] at hs'
      exact absurd (Int64.toInt_inj.mp (show (f n).toInt = (0 : Int64).toInt by rw [Int64.toInt_zero]; omega)) h1
theorem am_min (f : Nat → Int64) : ∀ i q, q ≤ i → (f (am f i)).toInt ≤ (f q).toInt
  | 0, q, h => by
    have : q = 0 := by omega
    subst this
    exact Int.le_refl _
  | i + 1, q, h => by
    by_cases h1 : f (am f i) ≤ f (i + 1)
    · rw [am_y h1]
      by_cases h2 : q = i + 1
      · rw [h2]; exact Int64.le_iff_toInt_le.mp h1
      · exact am_min f i q (by omega)
    · rw [am_n h1]
      have h3 := Int64.lt_iff_toInt_lt.mp (Int64.not_le.mp h1)
      by_cases h2 : q = i + 1
      · rw [h2]; exact Int.le_refl _
      · have := am_min f i q (by omega)
        omega
theorem ax_max (f : Nat → Int64) : ∀ i q, q ≤ i → (f q).toInt ≤ (f (ax f i)).toInt
  | 0, q, h => by
    have : q = 0 := by omega
    subst this
    exact Int.le_refl _
  | i + 1, q, h => by
    by_cases h1 : f (i + 1) ≤ f (ax f i)
    · rw [ax_y h1]
      by_cases h2 : q = i + 1
      · rw [h2]; exact Int64.le_iff_toInt_le.mp h1
      · exact ax_max f i q (by omega)
    · rw [ax_n h1]
      have h3 := Int64.lt_iff_toInt_lt.mp (Int64.not_le.mp h1)
      by_cases h2 : q = i + 1
      · rw [h2]; exact Int.le_refl _
      · have := ax_max f i q (by omega)
        omega
theorem si_np {f : Nat → Int64} : ∀ n, (∀ q, q < n → (f q).toInt ≤ 0) → si f n ≤ 0 ∧ ∀ q, q < n → si f n ≤ (f q).toInt
  | 0, _ => ⟨Int.le_refl _, fun q h => absurd h (by omega)⟩
  | n + 1, h => by
    obtain ⟨a, b⟩ := si_np (f := f) n (fun q hq => h q (by omega))
    have c := h n (by omega)
    refine ⟨by show si f n + _ ≤ 0; omega, fun q hq => ?_⟩
    show si f n + (f n).toInt ≤ _
    by_cases h2 : q = n
    · rw [h2]; omega
    · have := b q (by omega)
      omega
/-- bounds within which no sum of two wraps around -/
def sml (f : Nat → Int64) (n : Nat) : Prop := ∀ q, q < n → -4611686018427387904 ≤ (f q).toInt ∧ (f q).toInt ≤ 4611686018427387904
theorem neg_i {x : Int64} (h1 : -4611686018427387904 ≤ x.toInt) (h2 : x.toInt ≤ 4611686018427387904) : (-x).toInt = -x.toInt := by
  rw [Int64.toInt_neg]
  exact Jvm.Kit.bmod64 (by omega) (by omega)
theorem pay_i {f : Nat → Int64} {i j : Nat} (hi : -4611686018427387904 ≤ (f i).toInt ∧ (f i).toInt ≤ 4611686018427387904) : (pay f i j).toInt = (if (f j).toInt < -(f i).toInt then (f j).toInt else -(f i).toInt) := by
  unfold pay
  have e := neg_i hi.1 hi.2
  by_cases h : f j < -f i
  · have h' := Int64.lt_iff_toInt_lt.mp h
    rw [e] at h'
    rw [if_pos h, if_pos h']
  · have h' : ¬ (f j).toInt < -(f i).toInt := fun z => h (Int64.lt_iff_toInt_lt.mpr (by rw [e]; exact z))
    rw [if_neg h, if_neg h', e]
/-- one transfer -/
theorem tr_step {f : Nat → Int64} {n : Nat} (h1 : 1 ≤ n) (hs : si f n = 0) (hb : sml f n) (hneg : ¬ 0 ≤ f (am f (n - 1))) :
    si (aft f (am f (n - 1)) (ax f (n - 1))) n = 0 ∧ sml (aft f (am f (n - 1)) (ax f (n - 1))) n ∧ cz (aft f (am f (n - 1)) (ax f (n - 1))) n + 1 ≤ cz f n := by
  have hi := am_le f (n - 1)
  have hj := ax_le f (n - 1)
  have hmx : ∀ q, q < n → (f q).toInt ≤ (f (ax f (n - 1))).toInt := fun q hq => ax_max f (n - 1) q (by omega)
  generalize am f (n - 1) = i at hi hneg ⊢
  generalize ax f (n - 1) = j at hj hmx ⊢
  have hin : i < n := by omega
  have hjn : j < n := by omega
  have hfi : (f i).toInt < 0 := by
    have := Int64.lt_iff_toInt_lt.mp (Int64.not_le.mp hneg)
    rwa [Int64.toInt_zero] at this
  have hfj : 0 < (f j).toInt := by
    by_cases h : 0 < (f j).toInt
    · exact h
    · exfalso
      obtain ⟨-, b⟩ := si_np (f := f) n (fun q hq => by have := hmx q hq; omega)
      have := b i hin
      omega
  have hij : j ≠ i := fun z => by rw [z] at hfj; omega
  have hv := pay_i (f := f) (i := i) (j := j) (hb i hin)
  have bi := hb i hin
  have bj := hb j hjn
  unfold aft
  generalize pay f i j = v at hv ⊢
  have ei : (f i + v).toInt = (f i).toInt + v.toInt := by
    rw [Int64.toInt_add]
    split at hv <;> exact Jvm.Kit.bmod64 (by omega) (by omega)
  have ej0 : vp_updL f i (f i + v) j = f j := upL_n hij
  have ej : (f j - v).toInt = (f j).toInt - v.toInt := by
    rw [Int64.toInt_sub]
    split at hv <;> exact Jvm.Kit.bmod64 (by omega) (by omega)
  rw [ej0]
  refine ⟨?_, fun q hq => ?_, ?_⟩
  · rw [si_up n hjn, si_up n hin, ej0, ei, ej]
    omega
  · by_cases h2 : q = j
    · rw [h2, upL_s, ej]
      split at hv <;> omega
    · rw [upL_n h2]
      by_cases h3 : q = i
      · rw [h3, upL_s, ei]
        split at hv <;> omega
      · rw [upL_n h3]
        exact hb q hq
  · have c1 := cz_up (f := f) (v := f i + v) n hin
    have c2 := cz_up (f := vp_updL f i (f i + v)) (v := f j - v) n hjn
    rw [ej0] at c2
    have n1 : ¬ f i = 0 := fun z => by rw [z] at hfi; simp at hfi
    have n2 : ¬ f j = 0 := fun z => by rw [z] at hfj; simp at hfj
    rw [if_neg n1] at c1
    rw [if_neg n2] at c2
    have hz : f i + v = 0 ∨ f j - v = 0 := by
      split at hv
      · right
        exact Int64.toInt_inj.mp (by rw [ej, Int64.toInt_zero]; omega)
      · left
        exact Int64.toInt_inj.mp (by rw [ei, Int64.toInt_zero]; omega)
    rcases hz with z | z
    · rw [if_pos z] at c1
      have : (if f j - v = 0 then 0 else 1) ≤ 1 := by split <;> omega
      omega
    · rw [if_pos z] at c2
      have : (if f i + v = 0 then 0 else 1) ≤ 1 := by split <;> omega
      omega
/-- so many steps are enough -/
theorem trs_more {n : Nat} (h1 : 1 ≤ n) : ∀ (k : Nat) (t : TT), si t.2.1 n = 0 → sml t.2.1 n → cz t.2.1 n ≤ k + 1 → ∀ m, k ≤ m → trs n m t = trs n k t
  | 0, t, hs, hb, hc, m, _ => by
    have h0 := cz_1 n hc hs
    obtain ⟨-, hz⟩ := cz_0 n h0
    have hi := am_le t.2.1 (n - 1)
    have e : t.2.1 (am t.2.1 (n - 1)) = 0 := hz _ (by omega)
    cases m with
    | zero => rfl
    | succ m =>
      show (if 0 ≤ t.2.1 (am t.2.1 (n - 1)) then t else _) = t
      rw [if_pos (by rw [e]; exact Int64.le_refl 0)]
  | k + 1, t, hs, hb, hc, m, hm => by
    cases m with
    | zero => omega
    | succ m =>
      show (if 0 ≤ t.2.1 (am t.2.1 (n - 1)) then t else trs n m (tr1 n t)) = (if 0 ≤ t.2.1 (am t.2.1 (n - 1)) then t else trs n k (tr1 n t))
      by_cases h : 0 ≤ t.2.1 (am t.2.1 (n - 1))
      · rw [if_pos h, if_pos h]
      · rw [if_neg h, if_neg h]
        obtain ⟨a, b, c⟩ := tr_step h1 hs hb h
        exact trs_more h1 k (tr1 n t) a b (by show cz (aft _ _ _) n ≤ k + 1; omega) m (by omega)
theorem trs_14 {n : Nat} (h1 : 1 ≤ n) (hn : n ≤ 15) (t : TT) (hs : si t.2.1 n = 0) (hb : sml t.2.1 n) {m : Nat} (hm : 14 ≤ m) : trs n m t = trs n 14 t :=
  trs_more h1 14 t hs hb (by have := cz_le t.2.1 n; omega) m hm
end XN
section XN2
theorem cz_end {f : Nat → Int64} {n : Nat} (h1 : 1 ≤ n) (hs : si f n = 0) (hc : cz f n ≤ 1) : 0 ≤ f (am f (n - 1)) := by
  obtain ⟨-, hz⟩ := cz_0 n (cz_1 n hc hs)
  have hi := am_le f (n - 1)
  rw [hz _ (by omega)]
  exact Int64.le_refl 0
end XN2
section XN3
theorem pay_of {f : Nat → Int64} {i j : Nat} (h : ¬ f j ≤ -f i) : -f i = pay f i j := by
  unfold pay
  rw [if_neg (fun z => h (Int64.le_of_lt z))]
theorem pay_of2 {f : Nat → Int64} {i j : Nat} (h : f j ≤ -f i) : f j = pay f i j := by
  unfold pay
  by_cases z : f j < -f i
  · rw [if_pos z]
  · rw [if_neg z]
    exact Int64.le_antisymm h (Int64.not_lt.mp z)
theorem cpy_in {α : Type} {i q : Nat} {a b : Nat → α} (h : q < i) : cpy i a b q = a q := by simp [cpy, h]
theorem si_eq {f g : Nat → Int64} : ∀ n, (∀ q, q < n → f q = g q) → si f n = si g n
  | 0, _ => rfl
  | n + 1, h => by
    show si f n + _ = si g n + _
    rw [si_eq n (fun q hq => h q (by omega)), h n (by omega)]
theorem si_cpy {n : Nat} {a b : Nat → Int64} : si (cpy n a b) n = si a n := si_eq n (fun _ hq => cpy_in hq)
end XN3
