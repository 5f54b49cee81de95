/-! explain(): the class. -/
noncomputable def exK (P : Int → Prop) : Nat → Int → Int
  | 0, _ => -9
  | n + 1, k => cif (P k) k (exK P n (k + 1))
theorem exK_s (P : Int → Prop) (n : Nat) (k : Int) : exK P (n + 1) k = cif (P k) k (exK P n (k + 1)) := rfl
theorem exK_z (P : Int → Prop) (k : Int) : exK P 0 k = -9 := rfl
theorem exK_r (P : Int → Prop) : ∀ (n : Nat) (k : Int), 0 ≤ k → exK P n k = -9 ∨ k ≤ exK P n k ∧ exK P n k < k + n
  | 0, k, _ => Or.inl rfl
  | n + 1, k, h => by
    rw [exK]
    by_cases hp : P k
    · rw [cif_t hp]; omega
    · rw [cif_f hp]
      rcases exK_r P n (k + 1) (by omega) with h | h <;> omega
/-- a call that only asks: the class's rows that may change -/
def FrX (z z' : Nat → Int → Int) : Prop := ∀ k, k ≤ 21 ∨ 57 ≤ k ∧ k < 165 ∨ 189 ≤ k → z' k = z k
theorem FrX_r (z : Nat → Int → Int) : FrX z z := fun _ _ => rfl
theorem FrX_t {z z' z'' : Nat → Int → Int} (h : FrX z z') (h' : FrX z' z'') : FrX z z'' := fun k hk => (h' k hk).trans (h k hk)
theorem FrX_S {z z' : Nat → Int → Int} {b : Nat} {σ : Int → Int} (hb : isB b) (hV : V σ) (h : FrX z z') (hS : St z b σ) : St z' b σ := by
  have := isB_r hb
  unfold isB at hb
  exact St_congr hV (fun k k0 k1 => h k (by omega)) hS
section
variable {p : Nat → Nat} {z l : Nat → Int → Int}
theorem σ_tr {σ : Int → Int} (hV : V σ) {s : Nat} (hs : s < 3) : (0 ≤ σ (83 + s) ∧ σ (83 + s) ≤ 200) ∧ ∀ i, 0 ≤ i → i < σ (83 + s) → 1 ≤ dσ σ s i ∧ dσ σ s i ≤ 60000 := hV.2.2.2.2.2.2.2 s hs
end
