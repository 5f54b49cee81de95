/-! The model: codes by phase, by a search that notes what is dead. -/
def Ed1 (f e : Int → Int) (m tol : Int) (j : Nat) (q b q' : Int) : Prop :=
  if j = 0 then (if b = 0 then mt (e 1) (f 2 + f 3) tol ∧ q' = 2 else (mt (e 1) (f 2) tol ∧ sgl f e m tol 2) ∧ q' = 3)
  else (if q % 2 = b then par f e m tol q ∧ q' = q + 2 else dbl f e m tol q ∧ q' = q + 1)
/-- bit b can be read at level j and then the rest -/
def Fe (f e : Int → Int) (m tol : Int) (N j : Nat) (q b : Int) : Prop := ∃ q', Ed1 f e m tol j q b q' ∧ Rd f e m tol (N - (j + 1)) q'
theorem Ed1_u {f e : Int → Int} {m tol : Int} {j : Nat} {q b x y : Int} (h : Ed1 f e m tol j q b x) (h' : Ed1 f e m tol j q b y) : x = y := by
  unfold Ed1 at h h'
  split at h
  · split at h <;> rename_i h1 h2
    · rw [if_pos h1, if_pos h2] at h'; omega
    · rw [if_pos h1, if_neg h2] at h'; omega
  · split at h <;> rename_i h1 h2
    · rw [if_neg h1, if_pos h2] at h'; omega
    · rw [if_neg h1, if_neg h2] at h'; omega
theorem Rd_le {f e : Int → Int} {m tol : Int} {r : Nat} {a : Int} (h : Rd f e m tol r a) : a ≤ m := by
  cases r with
  | zero => rcases h with h | h <;> omega
  | succ r =>
    rcases h with ⟨h, _⟩ | ⟨h, _⟩
    · have := h.2.1; omega
    · have := h.1.2.1; omega
theorem Rd_F {f e : Int → Int} {m tol : Int} {N k : Nat} {q : Int} (hk : 1 ≤ k) (hkN : k < N) : Rd f e m tol (N - k) q ↔ Fe f e m tol N k q 0 ∨ Fe f e m tol N k q 1 := by
  have hr : N - k = (N - (k + 1)) + 1 := by omega
  rw [hr, Rd_s]
  unfold Fe Ed1
  simp only [if_neg (show ¬k = 0 by omega)]
  have hq : q % 2 = 0 ∨ q % 2 = 1 := by omega
  constructor
  · rintro (⟨h1, h2⟩ | ⟨h1, h2⟩)
    · rcases hq with hq | hq
      · exact Or.inr ⟨q + 1, by rw [if_neg (by omega)]; exact ⟨h1, rfl⟩, h2⟩
      · exact Or.inl ⟨q + 1, by rw [if_neg (by omega)]; exact ⟨h1, rfl⟩, h2⟩
    · rcases hq with hq | hq
      · exact Or.inl ⟨q + 2, by rw [if_pos hq]; exact ⟨h1, rfl⟩, h2⟩
      · exact Or.inr ⟨q + 2, by rw [if_pos hq]; exact ⟨h1, rfl⟩, h2⟩
  · rintro (⟨q', h1, h2⟩ | ⟨q', h1, h2⟩)
    · split at h1
      · obtain ⟨h1, rfl⟩ := h1; exact Or.inr ⟨h1, h2⟩
      · obtain ⟨h1, rfl⟩ := h1; exact Or.inl ⟨h1, h2⟩
    · split at h1
      · obtain ⟨h1, rfl⟩ := h1; exact Or.inr ⟨h1, h2⟩
      · obtain ⟨h1, rfl⟩ := h1; exact Or.inl ⟨h1, h2⟩
theorem ph0_F {f e : Int → Int} {m tol : Int} {N : Nat} (q : Int) (hN : f 6 = N) (h1 : 1 ≤ N) : ph0 f e m tol ↔ Fe f e m tol N 0 q 0 := by
  unfold ph0 Fe Ed1
  rw [show (f 6 - 1).toNat = N - (0 + 1) by omega]
  constructor
  · rintro ⟨a, b⟩; exact ⟨2, by rw [if_pos rfl, if_pos rfl]; exact ⟨a, rfl⟩, b⟩
  · rintro ⟨q', a, b⟩
    rw [if_pos rfl, if_pos rfl] at a
    obtain ⟨a, rfl⟩ := a; exact ⟨a, b⟩
theorem ph1_F {f e : Int → Int} {m tol : Int} {N : Nat} (q : Int) (hN : f 6 = N) (h1 : 1 ≤ N) : ph1 f e m tol ↔ Fe f e m tol N 0 q 1 := by
  unfold ph1 Fe Ed1
  rw [show (f 6 - 1).toNat = N - (0 + 1) by omega]
  constructor
  · rintro ⟨a, b, c⟩; exact ⟨3, by rw [if_pos rfl, if_neg (by decide)]; exact ⟨⟨a, b⟩, rfl⟩, c⟩
  · rintro ⟨q', a, b⟩
    rw [if_pos rfl, if_neg (by decide)] at a
    obtain ⟨⟨a, c⟩, rfl⟩ := a; exact ⟨a, c, b⟩
def dix (k : Nat) (o b : Int) : Int := 80 * k + 2 * o + b
/-- what the dead marks tell -/
def Dd (f e : Int → Int) (m tol : Int) (N : Nat) (dd : Int → Int) : Prop := (∀ i, 0 ≤ i → i < 2720 → dd i = 0 ∨ dd i = 1) ∧ ∀ (k : Nat) (o b : Int), 1 ≤ k → k ≤ N → 0 ≤ o → o ≤ m → o % 2 = b → dd (dix k o b) = 1 → ¬Rd f e m tol (N - k) o
/-- the search's way down to level k -/
def Pa (f e : Int → Int) (m tol : Int) (N k : Nat) (ch rn : Int → Int) : Prop := k ≤ N ∧ rn 0 = 1 ∧ ∀ j : Nat, j < k → (ch j = 0 ∨ ch j = 1) ∧ (2 ≤ rn (j + 1) ∧ rn (j + 1) ≤ m ∧ rn (j + 1) % 2 = ch j) ∧ Ed1 f e m tol j (rn j) (ch j) (rn (j + 1)) ∧ (ch j = 1 → ¬Fe f e m tol N j (rn j) 0)
def Tp (f e : Int → Int) (m tol : Int) (N k : Nat) (ch rn : Int → Int) : Prop := k < N → (-1 ≤ ch k ∧ ch k ≤ 1) ∧ (0 ≤ ch k → ¬Fe f e m tol N k (rn k) 0) ∧ (ch k = 1 → ¬Fe f e m tol N k (rn k) 1)
theorem Pa_pop {f e : Int → Int} {m tol : Int} {N k : Nat} {ch rn : Int → Int} (h : Pa f e m tol N (k + 1) ch rn) (hd : ¬Rd f e m tol (N - (k + 1)) (rn (k + 1))) : Pa f e m tol N k ch rn ∧ Tp f e m tol N k ch rn := by
  obtain ⟨h1, h2, h3⟩ := h
  obtain ⟨a, b, c, d⟩ := h3 k (by omega)
  refine ⟨⟨by omega, h2, fun j hj => h3 j (by omega)⟩, fun _ => ⟨by omega, ?_, ?_⟩⟩
  · intro _ hF
    by_cases h1 : ch k = 1
    · exact d h1 hF
    · have h0 : ch k = 0 := by omega
      rw [h0] at c
      obtain ⟨q', x, y⟩ := hF
      rw [Ed1_u x c] at y; exact hd y
  · intro h1 hF
    rw [h1] at c
    obtain ⟨q', x, y⟩ := hF
    rw [Ed1_u x c] at y; exact hd y
theorem Dd_set {f e : Int → Int} {m tol : Int} {N k : Nat} {dd : Int → Int} {o b : Int} (h : Dd f e m tol N dd) (hm : m ≤ 33) (ho : 0 ≤ o) (ho' : o ≤ m) (hb : o % 2 = b ∨ k = 0) (hb' : 0 ≤ b ∧ b ≤ 1) (hk : 1 ≤ k → ¬Rd f e m tol (N - k) o) : Dd f e m tol N (fun i => if i = dix k o b then 1 else dd i) := by
  obtain ⟨h1, h2⟩ := h
  refine ⟨fun i a c => ?_, fun k' o' b' a c d g hp hx => ?_⟩
  · show (if i = dix k o b then (1 : Int) else dd i) = 0 ∨ (if i = dix k o b then (1 : Int) else dd i) = 1
    split
    · exact Or.inr rfl
    · exact h1 i a c
  · simp only at hx
    by_cases he : dix k' o' b' = dix k o b
    · unfold dix at he
      have : k' = k ∧ o' = o := by omega
      rw [this.1, this.2]; exact hk (by omega)
    · rw [if_neg he] at hx
      exact h2 k' o' b' a c d g hp hx
/-- a way to the end is the code -/
theorem Pa_code {f e : Int → Int} {m tol : Int} {N : Nat} {ch rn : Int → Int} (hN : f 6 = N) (hN1 : 1 ≤ N) (h : Pa f e m tol N N ch rn) (hR : Rd f e m tol 0 (rn N)) (hg : 3 ≤ m ∧ m ≤ 2 * f 6 + 1 ∧ mt (e 0) (f 1) tol) : phcode f e m tol = csum f ch N := by
  obtain ⟨-, h0, h⟩ := h
  have hall : ∀ r j : Nat, r + j = N → 1 ≤ j → Rd f e m tol r (rn j) ∧ csum f ch j + phs f e m tol r (rn j) = csum f ch N := by
    intro r
    induction r with
    | zero => intro j hj _; have : j = N := by omega
              subst this; exact ⟨hR, by simp [phs]⟩
    | succ r ih =>
      intro j hj hj1
      obtain ⟨a, b, c, d⟩ := h j (by omega)
      obtain ⟨i1, i2⟩ := ih (j + 1) (by omega) (by omega)
      have i1 : Rd f e m tol r (rn (j + 1)) := i1
      have i2 : csum f ch (j + 1) + phs f e m tol r (rn (j + 1)) = csum f ch N := i2
      have hr : N - (j + 1) = r := by omega
      have hq2 : rn j % 2 = 0 ∨ rn j % 2 = 1 := by omega
      have hRd : Rd f e m tol (r + 1) (rn j) := by
        have := (Rd_F (f := f) (e := e) (m := m) (tol := tol) (N := N) (k := j) (q := rn j) hj1 (by omega)).mpr (by
          rcases a with a | a
          · exact Or.inl ⟨rn (j + 1), by have c' := c; rw [a] at c'; exact c', by rw [hr]; exact i1⟩
          · exact Or.inr ⟨rn (j + 1), by have c' := c; rw [a] at c'; exact c', by rw [hr]; exact i1⟩)
        rw [show N - j = r + 1 by omega] at this; exact this
      refine ⟨hRd, ?_⟩
      have hz : Rz f e m tol r (rn j) ↔ Fe f e m tol N j (rn j) 0 := by
        unfold Rz Fe Ed1
        rw [hr]
        simp only [if_neg (show ¬j = 0 by omega)]
        constructor
        · intro hx
          by_cases hp : rn j % 2 = 0
          · rw [if_pos hp] at hx
            exact ⟨rn j + 2, by rw [if_pos hp]; exact ⟨hx.1, rfl⟩, hx.2⟩
          · rw [if_neg hp] at hx
            exact ⟨rn j + 1, by rw [if_neg hp]; exact ⟨hx.1, rfl⟩, hx.2⟩
        · rintro ⟨q', hx, hy⟩
          by_cases hp : rn j % 2 = 0
          · rw [if_pos hp] at hx ⊢; obtain ⟨hx, rfl⟩ := hx; exact ⟨hx, hy⟩
          · rw [if_neg hp] at hx ⊢; obtain ⟨hx, rfl⟩ := hx; exact ⟨hx, hy⟩
      have hcst : f 6 - ((r : Int) + 1) = j := by omega
      unfold Ed1 at c
      rw [if_neg (by omega)] at c
      rw [← i2, phs, csum, hcst]
      rcases a with a | a
      · have hzt : Rz f e m tol r (rn j) := hz.mpr ⟨rn (j + 1), by unfold Ed1; rw [if_neg (by omega), ← a]; exact c, by rw [hr]; exact i1⟩
        have e1 : phb f e m tol r (rn j) = 0 := cif_t hzt
        have e2 : phn f e m tol r (rn j) = rn (j + 1) := by
          unfold phn; rw [cif_t hzt]
          rw [a] at c
          by_cases hp : rn j % 2 = 0
          · rw [if_pos hp] at c ⊢; omega
          · rw [if_neg hp] at c ⊢; omega
        rw [e1, e2, a]; omega
      · have hzf : ¬Rz f e m tol r (rn j) := fun hx => d a (hz.mp hx)
        have e1 : phb f e m tol r (rn j) = 1 := cif_f hzf
        have e2 : phn f e m tol r (rn j) = rn (j + 1) := by
          unfold phn; rw [cif_f hzf]
          rw [a] at c
          by_cases hp : rn j % 2 = 0
          · rw [if_pos hp]; rw [if_neg (by omega)] at c; omega
          · rw [if_neg hp]; rw [if_pos (by omega)] at c; omega
        rw [e1, e2, a]; omega
  obtain ⟨a, b, c, d⟩ := h 0 (by omega)
  obtain ⟨i1, i2⟩ := hall (N - 1) 1 (by omega) (by omega)
  have hr1 : (f 6 - 1).toNat = N - 1 := by omega
  have c' := c
  unfold Ed1 at c'
  rw [if_pos rfl] at c'
  have i1 : Rd f e m tol (N - 1) (rn (0 + 1)) := i1
  have i2 : csum f ch 1 + phs f e m tol (N - 1) (rn (0 + 1)) = csum f ch N := i2
  have c1 : csum f ch 1 = ch 0 * pw (plc f 0) := by simp [csum]
  have z0 : ((0 : Nat) : Int) = 0 := rfl
  rw [z0] at a c' d
  unfold phcode
  rw [cif_t hg]
  rcases a with a | a
  · rw [a, if_pos rfl] at c'
    have : ph0 f e m tol := (ph0_F (rn 0) hN hN1).mpr ⟨rn (0 + 1), by unfold Ed1; rw [if_pos rfl, if_pos rfl]; exact c', i1⟩
    rw [cif_t this, hr1, ← i2, c1, a, c'.2]; omega
  · rw [a, if_neg (by decide)] at c'
    have n0 : ¬ph0 f e m tol := fun hx => d a ((ph0_F (rn 0) hN hN1).mp hx)
    have : ph1 f e m tol := (ph1_F (rn 0) hN hN1).mpr ⟨rn (0 + 1), by unfold Ed1; rw [if_pos rfl, if_neg (by decide)]; exact c', i1⟩
    rw [cif_f n0, cif_t this, hr1, ← i2, c1, a, c'.2]; omega
-- the measure of the search
def w4 (k : Nat) : Int := 4 ^ (17 - k)
theorem w4_s {k : Nat} (h : k ≤ 16) : w4 k = 4 * w4 (k + 1) := by
  unfold w4; rw [show 17 - k = (17 - (k + 1)) + 1 by omega, Int.pow_succ]; omega
theorem w4_pos (k : Nat) : 0 < w4 k := Int.pow_pos (by decide)
def ms (ch : Int → Int) : Nat → Int
  | 0 => 0
  | k + 1 => ms ch k + (2 - ch k) * w4 k
theorem ms_congr {ch ch' : Int → Int} : ∀ k : Nat, (∀ j : Nat, j < k → ch j = ch' j) → ms ch k = ms ch' k
  | 0, _ => rfl
  | k + 1, h => by rw [ms, ms, ms_congr k (fun j hj => h j (by omega)), h k (by omega)]
theorem ms_nn {ch : Int → Int} : ∀ k : Nat, (∀ j : Nat, j < k → ch j = 0 ∨ ch j = 1) → 0 ≤ ms ch k
  | 0, _ => Int.le_refl 0
  | k + 1, h => by
    have h1 := ms_nn k (fun j hj => h j (by omega))
    have h2 := w4_pos k
    rw [ms]
    rcases h k (by omega) with h | h <;> rw [h] <;> omega
/-- at level k -/
def mt4 (ch : Int → Int) (N k : Nat) : Int := ms ch k + (if k = N then w4 k else (2 - ch k) * w4 k)
