/-! Text: its tokens, and what is read of them. -/
/-- a text: its length, its characters -/
abbrev Tx : Type := Nat × (Int → Int)
def Tg (T : Tx) : Prop := T.1 ≤ 160 ∧ ∀ i, 0 ≤ i → i < (T.1 : Int) → 0 ≤ T.2 i ∧ T.2 i ≤ 255
def ckT (T : Tx) (q : Int) : Int := if (T.1 : Int) ≤ q then 0 else if 97 ≤ T.2 q ∧ T.2 q ≤ 122 then 1 else if 48 ≤ T.2 q ∧ T.2 q ≤ 57 then 2 else if T.2 q = 59 then 3 else 4
def skT (T : Tx) : Nat → Int → Int
  | 0, q => q
  | f + 1, q => if q < T.1 ∧ T.2 q = 32 then skT T f (q + 1) else q
def ruT (T : Tx) (k : Int) : Nat → Int → Int
  | 0, q => q
  | f + 1, q => if q < T.1 ∧ ckT T q = k then ruT T k f (q + 1) else q
def tkS (T : Tx) (q : Int) : Int := skT T 200 q
def tkE (T : Tx) (q : Int) : Int := if ckT T (tkS T q) = 0 then tkS T q else if ckT T (tkS T q) = 1 ∨ ckT T (tkS T q) = 2 then ruT T (ckT T (tkS T q)) 200 (tkS T q + 1) else tkS T q + 1
def tkL (T : Tx) (q : Int) : Nat := (tkE T q - tkS T q).toNat
def vlT (T : Tx) (s : Int) : Nat → Int
  | 0 => 0
  | k + 1 => 10 * vlT T s k + (T.2 (s + k) - 48)
def hwT (T : Tx) (s : Int) : Nat → Int
  | 0 => 0
  | k + 1 => if k < 8 then 27 * hwT T s k + T.2 (s + k) - 96 else -1
def tkV (T : Tx) (q : Int) : Int := vlT T (tkS T q) (tkL T q)
def tkW (T : Tx) (q : Int) : Int := hwT T (tkS T q) (tkL T q)
/-- the kind, as the model has it: a number that is too long, or begins with 0, is something else -/
def tkK (T : Tx) (q : Int) : Int := if ckT T (tkS T q) = 2 then (if 5 < tkE T q - tkS T q ∨ T.2 (tkS T q) = 48 ∧ 1 < tkE T q - tkS T q then 4 else 2) else ckT T (tkS T q)
theorem ckT_r (T : Tx) (q : Int) : 0 ≤ ckT T q ∧ ckT T q ≤ 4 := by unfold ckT; split <;> (try split) <;> (try split) <;> (try split) <;> omega
theorem ckT_0 {T : Tx} {q : Int} : ckT T q = 0 ↔ (T.1 : Int) ≤ q := by
  unfold ckT
  by_cases h : (T.1 : Int) ≤ q
  · rw [if_pos h]; exact ⟨fun _ => h, fun _ => rfl⟩
  · rw [if_neg h]
    refine ⟨fun h2 => ?_, fun h2 => absurd h2 h⟩
    split at h2
    · omega
    · split at h2
      · omega
      · split at h2 <;> omega
theorem ckT_1 {T : Tx} {q : Int} : ckT T q = 1 ↔ q < T.1 ∧ 97 ≤ T.2 q ∧ T.2 q ≤ 122 := by
  unfold ckT
  by_cases h : (T.1 : Int) ≤ q
  · rw [if_pos h]; exact ⟨fun h => by omega, fun h => by omega⟩
  · rw [if_neg h]
    by_cases h1 : 97 ≤ T.2 q ∧ T.2 q ≤ 122
    · rw [if_pos h1]; exact ⟨fun _ => by omega, fun _ => rfl⟩
    · rw [if_neg h1]
      refine ⟨fun h2 => ?_, fun h2 => by omega⟩
      split at h2
      · omega
      · split at h2 <;> omega
theorem ckT_2 {T : Tx} {q : Int} : ckT T q = 2 ↔ q < T.1 ∧ 48 ≤ T.2 q ∧ T.2 q ≤ 57 := by
  unfold ckT
  by_cases h : (T.1 : Int) ≤ q
  · rw [if_pos h]; exact ⟨fun h => by omega, fun h => by omega⟩
  · rw [if_neg h]
    by_cases h1 : 97 ≤ T.2 q ∧ T.2 q ≤ 122
    · rw [if_pos h1]; exact ⟨fun h => by omega, fun _ => by omega⟩
    · rw [if_neg h1]
      by_cases h2 : 48 ≤ T.2 q ∧ T.2 q ≤ 57
      · rw [if_pos h2]; exact ⟨fun _ => by omega, fun _ => rfl⟩
      · rw [if_neg h2]
        refine ⟨fun h2 => ?_, fun h2 => by omega⟩
        split at h2 <;> omega
theorem skT_r {T : Tx} : ∀ (f : Nat) (q : Int), 0 ≤ q → q ≤ T.1 → (T.1 : Int) - q < f → (q ≤ skT T f q ∧ skT T f q ≤ T.1) ∧ ¬(skT T f q < T.1 ∧ T.2 (skT T f q) = 32)
  | 0, q, h0, h1, h2 => by omega
  | f + 1, q, h0, h1, h2 => by
    rw [skT]
    by_cases h : q < T.1 ∧ T.2 q = 32
    · rw [if_pos h]
      have := skT_r (T := T) f (q + 1) (by omega) (by omega) (by omega)
      exact ⟨by omega, this.2⟩
    · rw [if_neg h]
      exact ⟨by omega, h⟩
theorem ruT_r {T : Tx} {k : Int} : ∀ (f : Nat) (q : Int), 0 ≤ q → q ≤ T.1 → (T.1 : Int) - q < f → (q ≤ ruT T k f q ∧ ruT T k f q ≤ T.1) ∧ ¬(ruT T k f q < T.1 ∧ ckT T (ruT T k f q) = k) ∧ ∀ i, q ≤ i → i < ruT T k f q → ckT T i = k
  | 0, q, h0, h1, h2 => by omega
  | f + 1, q, h0, h1, h2 => by
    rw [ruT]
    by_cases h : q < T.1 ∧ ckT T q = k
    · rw [if_pos h]
      have := ruT_r (T := T) (k := k) f (q + 1) (by omega) (by omega) (by omega)
      refine ⟨by omega, this.2.1, fun i i0 i1 => ?_⟩
      by_cases hi : i = q
      · rw [hi]; exact h.2
      · exact this.2.2 i (by omega) i1
    · rw [if_neg h]
      exact ⟨by omega, h, fun i i0 i1 => by omega⟩
theorem tkS_r {T : Tx} (hT : Tg T) {q : Int} (h0 : 0 ≤ q) (h1 : q ≤ T.1) : (q ≤ tkS T q ∧ tkS T q ≤ T.1) ∧ ¬(tkS T q < T.1 ∧ T.2 (tkS T q) = 32) := skT_r 200 q h0 h1 (by have := hT.1; omega)
theorem tkE_r {T : Tx} (hT : Tg T) {q : Int} (h0 : 0 ≤ q) (h1 : q ≤ T.1) : (tkS T q ≤ tkE T q ∧ tkE T q ≤ T.1) ∧ (ckT T (tkS T q) ≠ 0 → tkS T q < tkE T q) ∧ (ckT T (tkS T q) = 1 ∨ ckT T (tkS T q) = 2 → ∀ i, tkS T q ≤ i → i < tkE T q → ckT T i = ckT T (tkS T q)) := by
  have h2 := tkS_r hT h0 h1
  unfold tkE
  by_cases h3 : ckT T (tkS T q) = 0
  · rw [if_pos h3]
    exact ⟨by omega, fun h => absurd h3 h, fun h => by omega⟩
  · have h4 : tkS T q < T.1 := by
      have : ¬(T.1 : Int) ≤ tkS T q := fun h => h3 (ckT_0.mpr h)
      omega
    rw [if_neg h3]
    by_cases h5 : ckT T (tkS T q) = 1 ∨ ckT T (tkS T q) = 2
    · rw [if_pos h5]
      have h6 := ruT_r (T := T) (k := ckT T (tkS T q)) 200 (tkS T q + 1) (by omega) (by omega) (by have := hT.1; omega)
      refine ⟨by omega, fun _ => by omega, fun _ i i0 i1 => ?_⟩
      by_cases hi : i = tkS T q
      · rw [hi]
      · exact h6.2.2 i (by omega) i1
    · rw [if_neg h5]
      exact ⟨by omega, fun _ => by omega, fun h => absurd h h5⟩
theorem vlT_r {T : Tx} {s : Int} : ∀ k : Nat, (∀ i, s ≤ i → i < s + k → 48 ≤ T.2 i ∧ T.2 i ≤ 57) → 0 ≤ vlT T s k ∧ (k ≤ 5 → vlT T s k ≤ 10 ^ k - 1)
  | 0, _ => by simp [vlT]
  | k + 1, h => by
    have h1 := vlT_r (T := T) (s := s) k (fun i i0 i1 => h i i0 (by omega))
    have h2 := h (s + k) (by omega) (by omega)
    rw [vlT]
    refine ⟨by omega, fun hk => ?_⟩
    have h3 := h1.2 (by omega)
    have : (10 : Int) ^ (k + 1) = 10 * 10 ^ k := by rw [Int.pow_succ, Int.mul_comm]
    omega
theorem tkV_r {T : Tx} (hT : Tg T) {q : Int} (h0 : 0 ≤ q) (h1 : q ≤ T.1) (hk : tkK T q = 2) : 0 ≤ tkV T q ∧ tkV T q ≤ 99999 := by
  have h2 := tkS_r hT h0 h1
  obtain ⟨h3, h4, h5⟩ := tkE_r hT h0 h1
  unfold tkK at hk
  split at hk
  · rename_i hc
    split at hk
    · omega
    · rename_i hn
      have hl : (tkL T q : Int) = tkE T q - tkS T q := by unfold tkL; omega
      have h6 := vlT_r (T := T) (s := tkS T q) (tkL T q) (fun i i0 i1 => by
        have := h5 (Or.inr hc) i i0 (by omega)
        rw [hc] at this
        exact (ckT_2.mp this).2)
      unfold tkV
      refine ⟨h6.1, ?_⟩
      have h7 : tkL T q ≤ 5 := by omega
      have h8 := h6.2 h7
      have : (10 : Int) ^ (tkL T q) ≤ 10 ^ 5 := by
        have : (10 : Nat) ^ (tkL T q) ≤ 10 ^ 5 := Nat.pow_le_pow_right (by decide) h7
        exact_mod_cast this
      have : (10 : Int) ^ 5 = 100000 := by decide
      omega
  · rename_i hc; exact absurd hk hc
-- what is read
abbrev RT : Type := Int ⊕ (Int × (Int → Int))
def nOk (T : Tx) (lo hi q : Int) : Prop := tkK T q = 2 ∧ lo ≤ tkV T q ∧ tkV T q ≤ hi
noncomputable def rdT (T : Tx) (lo hi q : Int) (k : Int → Int → RT) : RT := @ite _ (nOk T lo hi q) (Classical.propDecidable _) (k (tkV T q) (tkE T q)) (.inl (tkS T q))
theorem rdT_t {T : Tx} {lo hi q : Int} {k : Int → Int → RT} (h : nOk T lo hi q) : rdT T lo hi q k = k (tkV T q) (tkE T q) := @if_pos _ (Classical.propDecidable _) h _ _ _
theorem rdT_f {T : Tx} {lo hi q : Int} {k : Int → Int → RT} (h : ¬nOk T lo hi q) : rdT T lo hi q k = .inl (tkS T q) := @if_neg _ (Classical.propDecidable _) h _ _ _
def uσ (σ : Int → Int) (i v : Int) : Int → Int := fun j => if j = i then v else σ j
/-- a protocol more -/
def addP (σ : Int → Int) (k b o r h s a x y : Int) : Int → Int := fun j =>
  if j = 3 then σ 3 + 1 else if j = 4 + 9 * σ 3 then k else if j = 4 + 9 * σ 3 + 1 then h else if j = 4 + 9 * σ 3 + 2 then s else if j = 4 + 9 * σ 3 + 3 then a else if j = 4 + 9 * σ 3 + 4 then x else if j = 4 + 9 * σ 3 + 5 then y else if j = 4 + 9 * σ 3 + 6 then b else if j = 4 + 9 * σ 3 + 7 then o else if j = 4 + 9 * σ 3 + 8 then r else σ j
def addB (σ : Int → Int) (x y : Int) : Int → Int := fun j => if j = 58 then σ 58 + 1 else if j = 59 + 2 * σ 58 then x else if j = 60 + 2 * σ 58 then y else σ j
noncomputable def pP3 (T : Tx) (τ : Int → Int) (kd h s a b c q : Int) : RT :=
  rdT T 1 16 q fun bits q7 => rdT T 0 1 q7 fun o q8 => rdT T 0 2 q8 fun r q9 => if tkK T q9 = 3 then .inr (tkE T q9, addP τ kd bits o r h s a b c) else .inl (tkS T q9)
noncomputable def pP2 (T : Tx) (τ : Int → Int) (kd h s a q : Int) : RT :=
  rdT T (if kd = 2 then 0 else 50) (if kd = 2 then 0 else 20000) q fun b q5 => rdT T (if kd = 2 then 0 else 50) (if kd = 2 then 0 else 20000) q5 fun c q6 => if kd ≠ 2 ∧ c = b then .inl (tkS T q5) else pP3 T τ kd h s a b c q6
noncomputable def pPr (T : Tx) (τ : Int → Int) (q : Int) : RT :=
  rdT T 0 2 q fun kd q1 => rdT T 50 20000 q1 fun h q2 => rdT T 50 20000 q2 fun s q3 => rdT T 50 20000 q3 fun a q4 => pP2 T τ kd h s a q4
noncomputable def pBu (T : Tx) (τ : Int → Int) (q : Int) : RT :=
  rdT T 0 (τ 3 - 1) q fun x q1 => rdT T 0 (pw (Fσ τ x.toNat 6) - 1) q1 fun c q2 => if fBσ τ x (idn (Fσ τ x.toNat) c) = -9 then (if tkK T q2 = 3 then .inr (tkE T q2, addB τ x (idn (Fσ τ x.toNat) c)) else .inl (tkS T q2)) else .inl (tkS T q1)
def isPr (T : Tx) (q : Int) : Prop := tkK T q = 1 ∧ tkW T q = 8868840
def isBu (T : Tx) (q : Int) : Prop := tkK T q = 1 ∧ tkW T q = 40266734
noncomputable def pIt (T : Tx) (τ : Int → Int) (q : Int) : RT :=
  @ite _ (isPr T q) (Classical.propDecidable _) (if τ 3 < 6 then pPr T τ (tkE T q) else .inl (tkS T q)) (@ite _ (isBu T q) (Classical.propDecidable _) (if τ 58 < 12 then pBu T τ (tkE T q) else .inl (tkS T q)) (.inl (tkS T q)))
noncomputable def pAl (T : Tx) : Nat → Int → (Int → Int) → Int → Int ⊕ (Int × (Int → Int))
  | 0, _, τ, n => .inr (n, τ)
  | f + 1, q, τ, n => if tkK T q = 0 then .inr (n, τ) else match pIt T τ q with
    | .inl e => .inl e
    | .inr r => pAl T f r.1 r.2 (n + 1)
-- words
theorem hwT_lo {T : Tx} {s : Int} : ∀ k : Nat, (∀ i, s ≤ i → i < s + k → 97 ≤ T.2 i ∧ T.2 i ≤ 122) → (k ≤ 8 → (27 ^ k - 1 ≤ 26 * hwT T s k ∧ hwT T s k ≤ 27 ^ k - 1)) ∧ (8 < k → hwT T s k = -1)
  | 0, _ => by simp [hwT]
  | k + 1, h => by
    have h1 := hwT_lo (T := T) (s := s) k (fun i i0 i1 => h i i0 (by omega))
    have h2 := h (s + k) (by omega) (by omega)
    have h3 : (27 : Int) ^ (k + 1) = 27 * 27 ^ k := by rw [Int.pow_succ, Int.mul_comm]
    rw [hwT]
    by_cases hk : k < 8
    · rw [if_pos hk]
      refine ⟨fun _ => ?_, fun h => by omega⟩
      have h4 := h1.1 (by omega)
      omega
    · rw [if_neg hk]
      exact ⟨fun h => by omega, fun _ => rfl⟩
theorem isWd_len {T : Tx} {s : Int} {k : Nat} (h : ∀ i, s ≤ i → i < s + k → 97 ≤ T.2 i ∧ T.2 i ≤ 122) : (hwT T s k = 8868840 → k = 5) ∧ (hwT T s k = 40266734 → k = 6) := by
  have h1 := hwT_lo k h
  have : k = 0 ∨ k = 1 ∨ k = 2 ∨ k = 3 ∨ k = 4 ∨ k = 5 ∨ k = 6 ∨ k = 7 ∨ k = 8 ∨ 8 < k := by omega
  rcases this with rfl | rfl | rfl | rfl | rfl | rfl | rfl | rfl | rfl | h8
  · have := h1.1 (by decide); constructor <;> intro h <;> omega
  · have := h1.1 (by decide); constructor <;> intro h <;> omega
  · have := h1.1 (by decide); constructor <;> intro h <;> omega
  · have := h1.1 (by decide); constructor <;> intro h <;> omega
  · have := h1.1 (by decide); constructor <;> intro h <;> omega
  · have := h1.1 (by decide); constructor <;> intro h <;> omega
  · have := h1.1 (by decide); constructor <;> intro h <;> omega
  · have := h1.1 (by decide); constructor <;> intro h <;> omega
  · have := h1.1 (by decide); constructor <;> intro h <;> omega
  · have := h1.2 h8; constructor <;> intro h <;> omega
theorem wd5 {T : Tx} {s : Int} (h : ∀ i, s ≤ i → i < s + 5 → 97 ≤ T.2 i ∧ T.2 i ≤ 122) : hwT T s 5 = 8868840 ↔ (T.2 s = 112 ∧ T.2 (s + 1) = 114 ∧ T.2 (s + 2) = 111 ∧ T.2 (s + 3) = 116 ∧ T.2 (s + 4) = 111) := by
  have a0 := h s (by omega) (by omega)
  have a1 := h (s + 1) (by omega) (by omega)
  have a2 := h (s + 2) (by omega) (by omega)
  have a3 := h (s + 3) (by omega) (by omega)
  have a4 := h (s + 4) (by omega) (by omega)
  have e : hwT T s 5 = 27 * (27 * (27 * (27 * (27 * 0 + T.2 s - 96) + T.2 (s + 1) - 96) + T.2 (s + 2) - 96) + T.2 (s + 3) - 96) + T.2 (s + 4) - 96 := by
    simp [hwT]
  rw [e]
  constructor
  · intro h; omega
  · rintro ⟨b0, b1, b2, b3, b4⟩; rw [b0, b1, b2, b3, b4]; decide
theorem wd6 {T : Tx} {s : Int} (h : ∀ i, s ≤ i → i < s + 6 → 97 ≤ T.2 i ∧ T.2 i ≤ 122) : hwT T s 6 = 40266734 ↔ (T.2 s = 98 ∧ T.2 (s + 1) = 117 ∧ T.2 (s + 2) = 116 ∧ T.2 (s + 3) = 116 ∧ T.2 (s + 4) = 111 ∧ T.2 (s + 5) = 110) := by
  have a0 := h s (by omega) (by omega)
  have a1 := h (s + 1) (by omega) (by omega)
  have a2 := h (s + 2) (by omega) (by omega)
  have a3 := h (s + 3) (by omega) (by omega)
  have a4 := h (s + 4) (by omega) (by omega)
  have a5 := h (s + 5) (by omega) (by omega)
  have e : hwT T s 6 = 27 * (27 * (27 * (27 * (27 * (27 * 0 + T.2 s - 96) + T.2 (s + 1) - 96) + T.2 (s + 2) - 96) + T.2 (s + 3) - 96) + T.2 (s + 4) - 96) + T.2 (s + 5) - 96 := by
    simp [hwT]
  rw [e]
  constructor
  · intro h; omega
  · rintro ⟨b0, b1, b2, b3, b4, b5⟩; rw [b0, b1, b2, b3, b4, b5]; decide
