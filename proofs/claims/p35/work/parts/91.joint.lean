/-! Both objects together: what holds between calls, and how a call keeps it. -/
theorem V_c {σ σ' : Int → Int} (h : ∀ i : Int, 0 ≤ i → i < 686 → σ i = σ' i) (hV : V σ) : V σ' := by
  obtain ⟨v0, v1, v2, v3, v58, vp, vb, vt⟩ := hV
  unfold V
  rw [← h 0 (by decide) (by decide), ← h 1 (by decide) (by decide), ← h 2 (by decide) (by decide), ← h 3 (by decide) (by decide), ← h 58 (by decide) (by decide)]
  refine ⟨v0, v1, v2, v3, v58, fun q hq => PV_c (fun j j0 j1 => h _ (by omega) (by omega)) (vp q hq), fun k k0 k1 => ?_, fun s hs => ?_⟩
  · rw [← h (59 + 2 * k) (by omega) (by omega), ← h (60 + 2 * k) (by omega) (by omega)]; exact vb k k0 k1
  · have hv := vt s hs
    rw [← h (83 + s) (by omega) (by omega)]
    refine ⟨hv.1, fun i i0 i1 => ?_⟩
    rw [← h (86 + 200 * s + i) (by omega) (by omega)]; exact hv.2 i i0 i1
theorem isB_f {b k : Nat} (hb : isB b) (h0 : b ≤ k) (h1 : k < b + 18) : (1 ≤ k ∧ k ≤ 18) ∨ (57 ≤ k ∧ k < 165) := by unfold isB at hb; omega
theorem Hs_X {p : Nat → Nat} {z z' : Nat → Int → Int} {n : Int} {h : Int → Int → Int} (hp : PB p) (hn : n ≤ 6) (hF : ∀ k, k ≤ 18 ∨ 57 ≤ k ∧ k < 165 → z' k = z k) (hH : Hs z p n h) : Hs z' p n h := by
  refine ⟨by rw [hF 0 (by omega)]; exact hH.1, fun j hj => ?_⟩
  obtain ⟨a, b⟩ := hH.2 j hj
  refine ⟨a, St_congr a (fun k k0 k1 => ?_) b⟩
  have := isB_f (hp.1 (j + 1) (by omega)) k0 k1
  exact hF k (by omega)
/-- the class changed its state to σ', and saved the one before -/
def CX (p : Nat → Nat) (z : Nat → Int → Int) (n : Int) (h : Int → Int → Int) (σ σ' : Int → Int) (p' : Nat → Nat) (z' : Nat → Int → Int) : Prop := PB p' ∧ St z' (p' 0) σ' ∧ Hs z' p' (hsN n) (hsP n h σ) ∧ (∀ k, 189 ≤ k → z' k = z k) ∧ z' 20 = z 20 ∧ z' 21 = z 21
theorem hsN_r {n : Int} (h : 0 ≤ n ∧ n ≤ 6) : 0 ≤ hsN n ∧ hsN n ≤ 6 := by unfold hsN; split <;> omega
