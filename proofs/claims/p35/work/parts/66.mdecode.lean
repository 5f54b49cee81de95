/-! The model: codes, short frames, decoding. -/
section
variable {p : Nat → Nat} {z l : Nat → Int → Int}
theorem csum_nn (f b : Int → Int) (hb : ∀ k : Nat, b k = 0 ∨ b k = 1) (h6 : f 6 ≤ 16) (h : 0 ≤ f 6) : 0 ≤ csum f b (f 6).toNat ∧ csum f b (f 6).toNat ≤ 600000 := by
  have := csum_r f b hb h6 (f 6).toNat (by omega); omega
end
