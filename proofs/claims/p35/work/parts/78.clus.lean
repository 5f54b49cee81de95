/-! Clusters: what both sides find; the class's Clusters and what it gathers. -/
theorem fsl_dis {d : Int → Int} {gap E : Int} : ∀ (m : Nat) (k a : Int), a < k → ∀ i, i + 1 < (fsl d gap E m k a).length → (gl (fsl d gap E m k a) i).1 + (gl (fsl d gap E m k a) i).2 < (gl (fsl d gap E m k a) (i + 1)).1
  | 0, k, a, _, i, h => by simp [fsl] at h
  | m + 1, k, a, h1, i, h => by
    unfold fsl at h ⊢
    split at h
    · rename_i hk
      rw [if_pos hk]
      split at h
      · rename_i hd
        rw [if_pos hd]
        simp only [List.length_cons] at h
        cases i with
        | zero =>
          have : k + 1 ≤ (gl (fsl d gap E m (k + 2) (k + 1)) 0).1 := fsl_ge m (k + 2) (k + 1) (by omega) 0 (by omega)
          show a + (k - a) < (gl (fsl d gap E m (k + 2) (k + 1)) 0).1
          omega
        | succ i =>
          have := fsl_dis (d := d) (gap := gap) (E := E) m (k + 2) (k + 1) (by omega) i (by omega)
          show (gl (fsl d gap E m (k + 2) (k + 1)) i).1 + (gl (fsl d gap E m (k + 2) (k + 1)) i).2 < (gl (fsl d gap E m (k + 2) (k + 1)) (i + 1)).1
          exact this
      · rename_i hd
        rw [if_neg hd]
        exact fsl_dis m (k + 2) a (by omega) i h
    · simp at h
theorem FS_dis {d : Int → Int} {n gap : Int} {i : Nat} (h : i + 1 < (FS d n gap).length) : (gl (FS d n gap) i).1 + (gl (FS d n gap) i).2 < (gl (FS d n gap) (i + 1)).1 := by
  unfold FS at h ⊢
  split at h
  · simp at h
  · rename_i hn
    rw [if_neg hn]
    have := fsl_dis 200 1 0 (by omega) i h
    exact this
/-- the place of a new one among sorted ones -/
def pl (f : Int → Int) (v : Int) : Nat → Nat
  | 0 => 0
  | e + 1 => if v < f e then pl f v e else e + 1
theorem pl_le (f : Int → Int) (v : Int) : ∀ n, pl f v n ≤ n
  | 0 => Nat.le_refl 0
  | e + 1 => by rw [pl]; split; exact Nat.le_succ_of_le (pl_le f v e); exact Nat.le_refl _
def ins (v : Int) (x : Dn) : Dn := (x.1 + 1, fun i => if i < pl x.2 v x.1.toNat then x.2 i else if i = pl x.2 v x.1.toNat then v else x.2 (i - 1))
/-- from the durations of a frame: those of a side -/
def insR (e : Int → Int) (side : Int) : Nat → Dn → Dn
  | 0, x => x
  | k + 1, x => if (2 + (k : Int)) % 2 = side then ins (e (2 + k)) (insR e side k x) else insR e side k x
def fre (d : Int → Int) (L : List (Int × Int)) (i : Nat) : Int → Int := fun k => d ((gl L i).1 + k)
def insA (d : Int → Int) (L : List (Int × Int)) (side : Int) : Nat → Dn
  | 0 => (0, fun _ => 0)
  | i + 1 => if (gl L i).2 = (gl L 0).2 then insR (fre d L i) side ((gl L 0).2 - 2).toNat (insA d L side i) else insA d L side i
def hsum (d : Int → Int) (L : List (Int × Int)) (pl : Int) : Nat → Int × Int
  | 0 => (0, 0)
  | i + 1 => if (gl L i).2 = (gl L 0).2 then ((hsum d L pl i).1 + fre d L i pl, (hsum d L pl i).2 + 1) else hsum d L pl i
def hmean (d : Int → Int) (L : List (Int × Int)) (pl : Int) : Int := (hsum d L pl L.length).1 / (hsum d L pl L.length).2
def sm (f : Int → Int) : Nat → Int
  | 0 => 0
  | k + 1 => sm f k + f k
def ckS (f : Int → Int) (n : Int) : Nat → Nat × List Int
  | 0 => (0, [])
  | k + 1 => if (k : Int) + 1 = n ∨ 3 * f k < 2 * f (k + 1) then (k + 1, (ckS f n k).2 ++ [(sm f (k + 1) - sm f (ckS f n k).1) / ((k : Int) + 1 - (ckS f n k).1)]) else ckS f n k
def cmeans (x : Dn) : List Int := (ckS x.2 x.1 x.1.toNat).2
/-- durations -/
def Dr (x : Dn) : Prop := 0 ≤ x.1 ∧ ∀ i, 0 ≤ i → i < x.1 → 0 ≤ x.2 i ∧ x.2 i ≤ 60000
theorem Dr_ins {v : Int} {x : Dn} (h : Dr x) (hv : 0 ≤ v) (hv' : v ≤ 60000) : Dr (ins v x) := by
  obtain ⟨h0, h1⟩ := h
  refine ⟨by unfold ins; simp only; omega, fun i i0 i1 => ?_⟩
  have hp := pl_le x.2 v x.1.toNat
  unfold ins at i1 ⊢
  simp only at i1 ⊢
  split
  · exact h1 i i0 (by omega)
  · split
    · omega
    · exact h1 (i - 1) (by omega) (by omega)
theorem insR_1 (e : Int → Int) (side : Int) (x : Dn) : ∀ k : Nat, x.1 ≤ (insR e side k x).1 ∧ (insR e side k x).1 ≤ x.1 + k
  | 0 => by simp [insR]
  | k + 1 => by
    have := insR_1 e side x k
    rw [insR]; split
    · unfold ins; simp only; omega
    · omega
theorem Dr_insR {e : Int → Int} {side : Int} {x : Dn} (h : Dr x) : ∀ k : Nat, (∀ i, 0 ≤ i → i < 2 + (k : Int) → 0 ≤ e i ∧ e i ≤ 60000) → Dr (insR e side k x)
  | 0, _ => h
  | k + 1, he => by
    have h1 := Dr_insR (e := e) (side := side) h k (fun i i0 i1 => he i i0 (by omega))
    rw [insR]; split
    · have := he (2 + k) (by omega) (by omega)
      exact Dr_ins h1 this.1 this.2
    · exact h1
section
variable {n gap : Int} {d : Int → Int}
theorem fre_r (h0 : 0 ≤ n) (hd : ∀ i, 0 ≤ i → i < n → 1 ≤ d i ∧ d i ≤ 60000) {i : Nat} (hi : i < (FS d n gap).length) {k : Int} (k0 : 0 ≤ k) (k1 : k < (gl (FS d n gap) i).2) : 1 ≤ fre d (FS d n gap) i k ∧ fre d (FS d n gap) i k ≤ 60000 := by
  obtain ⟨a, b, c, e, f⟩ := FS_g h0 hi
  exact hd _ (by omega) (by omega)
theorem insA_r (h0 : 0 ≤ n) (hd : ∀ i, 0 ≤ i → i < n → 1 ≤ d i ∧ d i ≤ 60000) (h5 : 5 ≤ (gl (FS d n gap) 0).2) (side : Int) : ∀ i : Nat, i ≤ (FS d n gap).length → Dr (insA d (FS d n gap) side i) ∧ (insA d (FS d n gap) side i).1 ≤ n ∧ (i < (FS d n gap).length → (insA d (FS d n gap) side i).1 ≤ (gl (FS d n gap) i).1)
  | 0, _ => ⟨⟨by simp [insA], fun i i0 i1 => by simp [insA] at i1; omega⟩, by simp [insA]; exact h0, fun h => (FS_g h0 h).1⟩
  | i + 1, hi => by
    have h1 := insA_r h0 hd h5 side i (by omega)
    have h2 := h1.2.2 (by omega)
    have h3 := FS_g h0 (d := d) (gap := gap) (i := i) (by omega)
    unfold fsG at h3
    rw [insA]
    split
    · rename_i he
      have h4 := insR_1 (fre d (FS d n gap) i) side (insA d (FS d n gap) side i) ((gl (FS d n gap) 0).2 - 2).toNat
      refine ⟨Dr_insR h1.1 _ (fun k k0 k1 => ?_), by omega, fun h => ?_⟩
      · have := fre_r (gap := gap) h0 hd (i := i) (by omega) k0 (by omega)
        omega
      · have := FS_dis h
        omega
    · refine ⟨h1.1, h1.2.1, fun h => ?_⟩
      have := FS_dis h
      omega
theorem hsum_r (h0 : 0 ≤ n) (hd : ∀ i, 0 ≤ i → i < n → 1 ≤ d i ∧ d i ≤ 60000) (h5 : 5 ≤ (gl (FS d n gap) 0).2) {pl : Int} (p0 : 0 ≤ pl) (p1 : pl < 5) : ∀ i : Nat, i ≤ (FS d n gap).length → 0 ≤ (hsum d (FS d n gap) pl i).1 ∧ (hsum d (FS d n gap) pl i).1 ≤ 60000 * (hsum d (FS d n gap) pl i).2 ∧ 0 ≤ (hsum d (FS d n gap) pl i).2 ∧ (hsum d (FS d n gap) pl i).2 ≤ i ∧ (0 < i → 1 ≤ (hsum d (FS d n gap) pl i).2)
  | 0, _ => by simp [hsum]
  | i + 1, hi => by
    have h1 := hsum_r h0 hd h5 p0 p1 i (by omega)
    rw [hsum]
    split
    · rename_i he
      have := fre_r (gap := gap) h0 hd (i := i) (by omega) p0 (by omega)
      simp only; omega
    · rename_i he
      have : i ≠ 0 := by intro h; subst h; exact he rfl
      omega
end
theorem ckS_r (f : Int → Int) (n : Int) : ∀ k : Nat, (ckS f n k).1 ≤ k ∧ (ckS f n k).2.length ≤ k
  | 0 => by simp [ckS]
  | k + 1 => by
    have := ckS_r f n k
    rw [ckS]; split
    · simp; omega
    · omega
theorem sm_r {f : Int → Int} {a : Nat} : ∀ b : Nat, a ≤ b → (∀ i : Nat, i < b → 0 ≤ f i ∧ f i ≤ 60000) → 0 ≤ sm f b - sm f a ∧ sm f b - sm f a ≤ 60000 * ((b : Int) - a)
  | 0, h, _ => by have : a = 0 := by omega
                  subst this; simp
  | b + 1, h, hf => by
    by_cases hab : a = b + 1
    · subst hab; simp
    · have h1 := sm_r (f := f) (a := a) b (by omega) (fun i hi => hf i (by omega))
      have h2 := hf b (by omega)
      rw [sm]; omega
theorem ckS_m {f : Int → Int} {n : Int} : ∀ k : Nat, (∀ i : Nat, i < k → 0 ≤ f i ∧ f i ≤ 60000) → ∀ v ∈ (ckS f n k).2, 0 ≤ v ∧ v ≤ 60000
  | 0, _, v, hv => by simp [ckS] at hv
  | k + 1, hf, v, hv => by
    have h1 := ckS_m (f := f) (n := n) k (fun i hi => hf i (by omega))
    have h2 := ckS_r f n k
    rw [ckS] at hv
    split at hv
    · rcases List.mem_append.mp hv with hv | hv
      · exact h1 v hv
      · have h3 := sm_r (f := f) (a := (ckS f n k).1) (k + 1) (by omega) hf
        simp only [List.mem_singleton] at hv
        subst hv
        refine ⟨Int.ediv_nonneg h3.1 (by omega), ?_⟩
        have : (sm f (k + 1) - sm f (ckS f n k).1) / ((k : Int) + 1 - (ckS f n k).1) ≤ (60000 * ((k : Int) + 1 - (ckS f n k).1)) / ((k : Int) + 1 - (ckS f n k).1) := Int.ediv_le_ediv (by omega) (by have := h3.2; rw [Int.natCast_add] at this; exact this)
        rw [Int.mul_ediv_cancel _ (by omega)] at this
        exact this
    · exact h1 v hv
