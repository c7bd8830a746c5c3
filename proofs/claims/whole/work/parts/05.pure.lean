/-! the numbers behind the class: pure functions, shaped as the code is -/
section XP
/-- the first place of the least of f 0 .. f i -/
def am (f : Nat → Int64) : Nat → Nat
  | 0 => 0
  | i + 1 => if f (am f i) ≤ f (i + 1) then am f i else i + 1
/-- the first place of the greatest -/
def ax (f : Nat → Int64) : Nat → Nat
  | 0 => 0
  | i + 1 => if f (i + 1) ≤ f (ax f i) then ax f i else i + 1
def sm (f : Nat → Int64) : Nat → Int64
  | 0 => 0
  | i + 1 => sm f i + f i
def pl (f : Nat → Int64) (j : Nat) : Nat → Nat
  | 0 => 0
  | i + 1 => if f j < f i ∨ (f i = f j ∧ i < j) then pl f j i + 1 else pl f j i
theorem am_le (f : Nat → Int64) : ∀ i, am f i ≤ i
  | 0 => Nat.le_refl _
  | i + 1 => by
    have h := am_le f i
    unfold am
    split <;> omega
theorem ax_le (f : Nat → Int64) : ∀ i, ax f i ≤ i
  | 0 => Nat.le_refl _
  | i + 1 => by
    have h := ax_le f i
    unfold ax
    split <;> omega
theorem pl_le (f : Nat → Int64) (j : Nat) : ∀ i, pl f j i ≤ i
  | 0 => Nat.le_refl _
  | i + 1 => by
    have h := pl_le f j i
    unfold pl
    split <;> omega
theorem am_y {f : Nat → Int64} {i : Nat} (h : f (am f i) ≤ f (i + 1)) : am f (i + 1) = am f i := by rw [am, if_pos h]
theorem am_n {f : Nat → Int64} {i : Nat} (h : ¬ f (am f i) ≤ f (i + 1)) : am f (i + 1) = i + 1 := by rw [am, if_neg h]
theorem ax_y {f : Nat → Int64} {i : Nat} (h : f (i + 1) ≤ f (ax f i)) : ax f (i + 1) = ax f i := by rw [ax, if_pos h]
theorem ax_n {f : Nat → Int64} {i : Nat} (h : ¬ f (i + 1) ≤ f (ax f i)) : ax f (i + 1) = i + 1 := by rw [ax, if_neg h]
theorem pl_y {f : Nat → Int64} {j i : Nat} (h : f j < f i ∨ (f i = f j ∧ i < j)) : pl f j (i + 1) = pl f j i + 1 := by rw [pl, if_pos h]
theorem pl_n {f : Nat → Int64} {j i : Nat} (h : ¬ (f j < f i ∨ (f i = f j ∧ i < j))) : pl f j (i + 1) = pl f j i := by rw [pl, if_neg h]
/-- below i the one, from i on the other -/
def cpy {α : Type} (i : Nat) (a b : Nat → α) : Nat → α := fun q => if q < i then a q else b q
theorem cpy_0 {α : Type} (a b : Nat → α) : cpy 0 a b = b := by funext q; simp [cpy]
theorem cpy_at {α : Type} (i : Nat) (a b : Nat → α) : cpy i a b i = b i := by simp [cpy]
theorem cpy_up {i : Nat} {a b : Nat → Int64} {v : Int64} (h : v = a i) : vp_updL (cpy i a b) i v = cpy (i + 1) a b := by
  funext q
  subst h
  by_cases h1 : q = i
  · subst h1; simp [vp_updL, cpy]
  · by_cases h2 : q < i
    · have h3 : q < i + 1 := by omega
      simp [vp_updL, cpy, h1, h2, h3]
    · have h3 : ¬ q < i + 1 := by omega
      simp [vp_updL, cpy, h1, h2, h3]
/-- transfers: how many; what is open; who pays; whom; how much -/
abbrev TT : Type := Nat × (Nat → Int64) × (Nat → Int32) × (Nat → Int32) × (Nat → Int64)
def pay (f : Nat → Int64) (i j : Nat) : Int64 := if f j < -f i then f j else -f i
def aft (f : Nat → Int64) (i j : Nat) : Nat → Int64 := vp_updL (vp_updL f i (f i + pay f i j)) j (vp_updL f i (f i + pay f i j) j - pay f i j)
def tr1 (n : Nat) (t : TT) : TT := (t.1 + 1, aft t.2.1 (am t.2.1 (n - 1)) (ax t.2.1 (n - 1)), upd t.2.2.1 t.1 (nI (am t.2.1 (n - 1))), upd t.2.2.2.1 t.1 (nI (ax t.2.1 (n - 1))), vp_updL t.2.2.2.2 t.1 (pay t.2.1 (am t.2.1 (n - 1)) (ax t.2.1 (n - 1))))
def trs (n : Nat) : Nat → TT → TT
  | 0, t => t
  | k + 1, t => if 0 ≤ t.2.1 (am t.2.1 (n - 1)) then t else trs n k (tr1 n t)
def zz (x : Int64) (k : Nat) : Nat := if x = 0 then 0 else k
end XP
section XP2
def cgv (x : Int64) (k : Int32) : Int64 := (x * k.toInt64 + 10000 - 1) / 10000
def dnv (x : Int64) (k : Int32) : Int64 := x * k.toInt64 / 10000
/-- positions behind a clearing, behind a going back -/
def po_cl (po : Nat → Int64) (i j : Nat) (x cg dn : Int64) : Nat → Int64 :=
  vp_updL (vp_updL (vp_updL po i (po i + (x - cg))) j (vp_updL po i (po i + (x - cg)) j + (dn - x))) 0 (vp_updL (vp_updL po i (po i + (x - cg))) j (vp_updL po i (po i + (x - cg)) j + (dn - x)) 0 + (cg - dn))
def po_bk (po : Nat → Int64) (i j : Nat) (x : Int64) : Nat → Int64 := vp_updL (vp_updL po i (po i - x)) j (vp_updL po i (po i - x) j + x)
end XP2
section XP3
/-- the reference's cost -/
def mcv (x : Int64) (k : Int32) : Int64 := if x * k.toInt64 ≤ x * k.toInt64 / 10000 * 10000 then x * k.toInt64 / 10000 + 0 else x * k.toInt64 / 10000 + 1
theorem tw_no {k : Int32} {m : Nat} (hm : m < 100) (h1 : ¬ k < 0) (h2 : ¬ nI m < k) : ¬ (k.toInt < 0 ∨ (m : Int) < k.toInt) := by
  rintro (h | h)
  · exact h1 (Int32.lt_iff_toInt_lt.mpr (by simpa using h))
  · exact h2 (Int32.lt_iff_toInt_lt.mpr (by rw [nI_toInt (by omega)]; exact h))
/-- eleven addresses -/
def adf (a0 a1 a2 a3 a4 a5 a6 a7 a8 a9 a10 : Nat) : Nat → Nat := fun k => [a0, a1, a2, a3, a4, a5, a6, a7, a8, a9, a10].getD k 0
end XP3
