/-! Calls of the class alone: what holds between them, and how a call keeps it. -/
/-- a call that asks: what it answers; nothing of the state changes -/
def CQ (f : MS → Option (Int32 × MS)) (A : (Int → Int) → Int) : Prop := ∀ (p : Nat → Nat) (z l : Nat → Int → Int) (σ : Int → Int), isB (p 0) → V σ → St z (p 0) σ → WP (f (M p z l)) (fun r => ∃ z' l', r = (I3 (A σ), M p z' l') ∧ FrX z z')
/-- a call that may change: what it answers, when it goes, what it makes of the row -/
def CC (f : MS → Option (Int32 × MS)) (A : (Int → Int) → Int) (go : (Int → Int) → Prop) (S : (Int → Int) → Int → Int) : Prop := ∀ (p : Nat → Nat) (z l : Nat → Int → Int) (σ : Int → Int) (n : Int) (h : Int → Int → Int), PB p → V σ → St z (p 0) σ → 0 ≤ n → n ≤ 6 → Hs z p n h → WP (f (M p z l)) (fun r => ∃ p' z' l', r = (I3 (A σ), M p' z' l') ∧ ((go σ ∧ CX p z n h σ (S σ) p' z') ∨ (¬go σ ∧ p' = p ∧ FrX z z')))
/-- the row that the object shows is σ, n states are saved: h -/
def RX (p : Nat → Nat) (z : Nat → Int → Int) (σ : Int → Int) (n : Int) (h : Int → Int → Int) : Prop := PB p ∧ V σ ∧ St z (p 0) σ ∧ (0 ≤ n ∧ n ≤ 6) ∧ Hs z p n h
/-- when a call goes its answer isn't below 0; when it is refused it is -/
def VG (A : (Int → Int) → Int) (go : (Int → Int) → Prop) (S : (Int → Int) → Int → Int) : Prop := ∀ σ, V σ → (go σ → V (S σ) ∧ 0 ≤ A σ ∧ A σ < 2147483648) ∧ (¬go σ → -9 ≤ A σ ∧ A σ < 0)
def DO (σ : Int → Int) (n : Int) (h : Int → Int → Int) (r : Int32 × MS) : Prop := ∃ (p' : Nat → Nat) (z' l' : Nat → Int → Int) (a : Int), r = (I3 a, M p' z' l') ∧ ((0 ≤ a ∧ a < 2147483648 ∧ ∃ σ', RX p' z' σ' (hsN n) (hsP n h σ)) ∨ (-9 ≤ a ∧ a < 0 ∧ RX p' z' σ n h))
section
variable {p : Nat → Nat} {z l : Nat → Int → Int} {σ : Int → Int} {n : Int} {h : Int → Int → Int}
theorem RX_X {z' : Nat → Int → Int} (hF : FrX z z') (hR : RX p z σ n h) : RX p z' σ n h := by
  obtain ⟨hp, hV, hS, hn, hH⟩ := hR
  exact ⟨hp, hV, FrX_S (hp.1 0 (by omega)) hV hF hS, hn, Hs_X hp hn.2 (fun k hk => hF k (by omega)) hH⟩
theorem ask {f : MS → Option (Int32 × MS)} {A : (Int → Int) → Int} (hC : CQ f A) (hR : RX p z σ n h) : WP (f (M p z l)) (fun r => ∃ z' l', r = (I3 (A σ), M p z' l') ∧ RX p z' σ n h) := by
  refine W_imp (hC p z l σ (hR.1.1 0 (by omega)) hR.2.1 hR.2.2.1) ?_
  rintro _ ⟨z', l', rfl, hF⟩
  exact ⟨z', l', rfl, RX_X hF hR⟩
theorem RX_V (hR : RX p z σ n h) : V σ := hR.2.1
theorem RX_n (hR : RX p z σ n h) : 0 ≤ n ∧ n ≤ 6 := hR.2.2.2.1
theorem chg {f : MS → Option (Int32 × MS)} {A : (Int → Int) → Int} {go : (Int → Int) → Prop} {S : (Int → Int) → Int → Int} (hC : CC f A go S) (hG : VG A go S) (hR : RX p z σ n h) : WP (f (M p z l)) (DO σ n h) := by
  obtain ⟨hp, hV, hS, hn, hH⟩ := id hR
  refine W_imp (hC p z l σ n h hp hV hS hn.1 hn.2 hH) ?_
  rintro _ ⟨p', z', l', rfl, hx⟩
  obtain ⟨g1, g2⟩ := hG σ hV
  rcases hx with ⟨hgo, hX⟩ | ⟨hgo, rfl, hF⟩
  · obtain ⟨v1, v2, v3⟩ := g1 hgo
    obtain ⟨x1, x2, x3, x4, x5, x6⟩ := hX
    exact ⟨p', z', l', _, rfl, Or.inl ⟨v2, v3, S σ, x1, v1, x2, hsN_r hn, x3⟩⟩
  · obtain ⟨v2, v3⟩ := g2 hgo
    exact ⟨p', z', l', _, rfl, Or.inr ⟨v2, v3, RX_X hF hR⟩⟩
end
