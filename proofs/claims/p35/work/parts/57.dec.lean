/-! Decoding: what both sides find. -/
abbrev mt (x len tol : Int) : Prop := 100 * (if len < x then x - len else len - x) ≤ len * tol
noncomputable def cif (c : Prop) (a b : Int) : Int := @ite Int c (Classical.propDecidable c) a b
theorem cif_t {c : Prop} {a b : Int} (h : c) : cif c a b = a := by unfold cif; exact @if_pos c (Classical.propDecidable c) h Int a b
theorem cif_f {c : Prop} {a b : Int} (h : ¬c) : cif c a b = b := by unfold cif; exact @if_neg c (Classical.propDecidable c) h Int a b
/-- the sum of the bits where they stand -/
def csum (f b : Int → Int) : Nat → Int
  | 0 => 0
  | k + 1 => csum f b k + b k * pw (plc f k)
def bpos (f : Int → Int) (k : Int) : Int := if f 0 = 1 then 2 + 2 * k else 3 + 2 * k
noncomputable def pbv (f e : Int → Int) (tol k : Int) : Int := cif (mt (e (bpos f k)) (f 4) tol) 0 1
def pok (f e : Int → Int) (m tol : Int) : Prop := m = 2 * f 6 + (if f 0 = 1 then 1 else 3) ∧ mt (e 0) (f 1) tol ∧ mt (e 1) (f 2) tol ∧ (∀ i, 2 ≤ i → i < m → i % 2 ≠ (if f 0 = 1 then 0 else 1) → mt (e i) (f 3) tol) ∧ ∀ k, 0 ≤ k → k < f 6 → mt (e (bpos f k)) (f 4) tol ∨ mt (e (bpos f k)) (f 5) tol
noncomputable def pcode (f e : Int → Int) (m tol : Int) : Int := cif (pok f e m tol) (csum f (pbv f e tol) (f 6).toNat) (-9)
-- phase
def sgl (f e : Int → Int) (m tol q : Int) : Prop := 2 ≤ q ∧ q < m ∧ mt (e q) (f 3) tol
def dbl (f e : Int → Int) (m tol q : Int) : Prop := 2 ≤ q ∧ q < m ∧ mt (e q) (2 * f 3) tol
def par (f e : Int → Int) (m tol q : Int) : Prop := sgl f e m tol q ∧ sgl f e m tol (q + 1)
/-- from a place on, the rest can be read -/
def Rd (f e : Int → Int) (m tol : Int) : Nat → Int → Prop
  | 0, q => q = m ∨ q = m - 1 ∧ sgl f e m tol q
  | r + 1, q => dbl f e m tol q ∧ Rd f e m tol r (q + 1) ∨ par f e m tol q ∧ Rd f e m tol r (q + 2)
/-- a 0 can be read, and then the rest -/
def Rz (f e : Int → Int) (m tol : Int) (r : Nat) (q : Int) : Prop := if q % 2 = 0 then par f e m tol q ∧ Rd f e m tol r (q + 2) else dbl f e m tol q ∧ Rd f e m tol r (q + 1)
noncomputable def phb (f e : Int → Int) (m tol : Int) (r : Nat) (q : Int) : Int := cif (Rz f e m tol r q) 0 1
noncomputable def phn (f e : Int → Int) (m tol : Int) (r : Nat) (q : Int) : Int := cif (Rz f e m tol r q) (if q % 2 = 0 then q + 2 else q + 1) (if q % 2 = 0 then q + 1 else q + 2)
noncomputable def phs (f e : Int → Int) (m tol : Int) : Nat → Int → Int
  | 0, _ => 0
  | r + 1, q => phb f e m tol r q * pw (plc f (f 6 - (r + 1))) + phs f e m tol r (phn f e m tol r q)
def ph0 (f e : Int → Int) (m tol : Int) : Prop := mt (e 1) (f 2 + f 3) tol ∧ Rd f e m tol (f 6 - 1).toNat 2
def ph1 (f e : Int → Int) (m tol : Int) : Prop := mt (e 1) (f 2) tol ∧ sgl f e m tol 2 ∧ Rd f e m tol (f 6 - 1).toNat 3
noncomputable def phcode (f e : Int → Int) (m tol : Int) : Int := cif (3 ≤ m ∧ m ≤ 2 * f 6 + 1 ∧ mt (e 0) (f 1) tol) (cif (ph0 f e m tol) (phs f e m tol (f 6 - 1).toNat 2) (cif (ph1 f e m tol) (pw (plc f 0) + phs f e m tol (f 6 - 1).toNat 3) (-9))) (-9)
noncomputable def xcode (f e : Int → Int) (m tol : Int) : Int := if f 0 = 2 then phcode f e m tol else pcode f e m tol
def xshort (f e : Int → Int) (m tol : Int) : Prop := f 8 = 1 ∧ m = 3 ∧ mt (e 0) (f 1) tol ∧ mt (e 1) (f 2 / 2) tol ∧ mt (e 2) (f 3) tol
/-- the first protocol with a code: it, and the code -/
noncomputable def dec1 (F : Nat → Int → Int) (e : Int → Int) (m tol : Int) : Nat → Nat → Int × Int
  | 0, _ => (-9, -9)
  | n + 1, q => if xcode (F q) e m tol = -9 then dec1 F e m tol n (q + 1) else (q, xcode (F q) e m tol)
noncomputable def dec2 (F : Nat → Int → Int) (e : Int → Int) (m tol : Int) : Nat → Nat → Int
  | 0, _ => -9
  | n + 1, q => cif (xshort (F q) e m tol) q (dec2 F e m tol n (q + 1))
/-- what a frame decodes to: a protocol, -9: none; a code, -9: none -/
noncomputable def dec (F : Nat → Int → Int) (n : Nat) (e : Int → Int) (m tol : Int) : Int × Int := if (dec1 F e m tol n 0).1 = -9 then (dec2 F e m tol n 0, -9) else dec1 F e m tol n 0
theorem csum_r (f b : Int → Int) (hb : ∀ k : Nat, b k = 0 ∨ b k = 1) (h6 : f 6 ≤ 16) : ∀ n : Nat, (n : Int) ≤ f 6 → 0 ≤ csum f b n ∧ csum f b n ≤ n * 32768
  | 0, _ => by simp [csum]
  | n + 1, h => by
    have h1 := csum_r f b hb h6 n (by omega)
    have h2 := plc_r (f := f) (k := n) (by omega) (by omega)
    have h3 : 1 ≤ pw (plc f n) ∧ pw (plc f n) ≤ 32768 := by
      have : plc f n ≤ 15 := by omega
      have h4 : plc f n = 0 ∨ plc f n = 1 ∨ plc f n = 2 ∨ plc f n = 3 ∨ plc f n = 4 ∨ plc f n = 5 ∨ plc f n = 6 ∨ plc f n = 7 ∨ plc f n = 8 ∨ plc f n = 9 ∨ plc f n = 10 ∨ plc f n = 11 ∨ plc f n = 12 ∨ plc f n = 13 ∨ plc f n = 14 ∨ plc f n = 15 := by omega
      rcases h4 with h | h | h | h | h | h | h | h | h | h | h | h | h | h | h | h <;> rw [h] <;> decide
    unfold csum
    rcases hb n with h | h
    · rw [h, Int.zero_mul]; omega
    · rw [h, Int.one_mul]; omega
theorem cif01 (c : Prop) : cif c 0 1 = 0 ∨ cif c 0 1 = 1 := by
  by_cases h : c
  · exact Or.inl (cif_t h)
  · exact Or.inr (cif_f h)
