/-! Clusters: what both sides find; the class's Clusters and what it gathers. -/
theorem fsl_dis {d : Int → Int} {gap E : Int} : ∀ (m : Nat) (k a : Int), a < k → ∀ i, i + 1 < (fsl d gap E m k a).length → (gl (fsl d gap E m k a) i).1 + (gl (fsl d gap E m k a) i).2 < (gl (fsl d gap E m k a) (i + 1)).1
  | 0, k, a, _, i, h => by simp [fsl] at h
  | m + 1, k, a, h1, i, h => by
    unfold fsl at h ⊢
    split at h
    · rename_i hk
      rw [if_pos hk]
      split at h
      · rename_i hd
        rw [if_pos hd]
        simp only [List.length_cons] at h
        cases i with
        | zero =>
          have : k + 1 ≤ (gl (fsl d gap E m (k + 2) (k + 1)) 0).1 := fsl_ge m (k + 2) (k + 1) (by omega) 0 (by omega)
          show a + (k - a) < (gl (fsl d gap E m (k + 2) (k + 1)) 0).1
          omega
        | succ i => exact fsl_dis m (k + 2) (k + 1) (by omega) i (by omega)
      · rename_i hd
        rw [if_neg hd]
        exact fsl_dis m (k + 2) a (by omega) i h
    · simp at h
theorem FS_dis {d : Int → Int} {n gap : Int} {i : Nat} (h : i + 1 < (FS d n gap).length) : (gl (FS d n gap) i).1 + (gl (FS d n gap) i).2 < (gl (FS d n gap) (i + 1)).1 := by
  unfold FS at h ⊢
  split at h
  · simp at h
  · rename_i hn
    rw [if_neg hn]
    exact fsl_dis 200 1 0 (by omega) i h
/-- the place of a new one among sorted ones -/
def pl (f : Int → Int) (v : Int) : Nat → Nat
  | 0 => 0
  | e + 1 => if v < f e then pl f v e else e + 1
theorem pl_le (f : Int → Int) (v : Int) : ∀ n, pl f v n ≤ n
  | 0 => Nat.le_refl 0
  | e + 1 => by rw [pl]; split; exact Nat.le_succ_of_le (pl_le f v e); exact Nat.le_refl _
def ins (v : Int) (x : Dn) : Dn := (x.1 + 1, fun i => if i < pl x.2 v x.1.toNat then x.2 i else if i = pl x.2 v x.1.toNat then v else x.2 (i - 1))
/-- from the durations of a frame: those of a side -/
def insR (e : Int → Int) (side : Int) : Nat → Dn → Dn
  | 0, x => x
  | k + 1, x => if (2 + (k : Int)) % 2 = side then ins (e (2 + k)) (insR e side k x) else insR e side k x
def fre (d : Int → Int) (L : List (Int × Int)) (i : Nat) : Int → Int := fun k => d ((gl L i).1 + k)
def insA (d : Int → Int) (L : List (Int × Int)) (side : Int) : Nat → Dn
  | 0 => (0, fun _ => 0)
  | i + 1 => if (gl L i).2 = (gl L 0).2 then insR (fre d L i) side ((gl L 0).2 - 2).toNat (insA d L side i) else insA d L side i
def hsum (d : Int → Int) (L : List (Int × Int)) (pl : Int) : Nat → Int × Int
  | 0 => (0, 0)
  | i + 1 => if (gl L i).2 = (gl L 0).2 then ((hsum d L pl i).1 + fre d L i pl, (hsum d L pl i).2 + 1) else hsum d L pl i
def hmean (d : Int → Int) (L : List (Int × Int)) (pl : Int) : Int := (hsum d L pl L.length).1 / (hsum d L pl L.length).2
def sm (f : Int → Int) : Nat → Int
  | 0 => 0
  | k + 1 => sm f k + f k
def ckS (f : Int → Int) (n : Int) : Nat → Nat × List Int
  | 0 => (0, [])
  | k + 1 => if (k : Int) + 1 = n ∨ 3 * f k < 2 * f (k + 1) then (k + 1, (ckS f n k).2 ++ [(sm f (k + 1) - sm f (ckS f n k).1) / ((k : Int) + 1 - (ckS f n k).1)]) else ckS f n k
def cmeans (x : Dn) : List Int := (ckS x.2 x.1 x.1.toNat).2
/-- durations -/
def Dr (x : Dn) : Prop := 0 ≤ x.1 ∧ ∀ i, 0 ≤ i → i < x.1 → 0 ≤ x.2 i ∧ x.2 i ≤ 60000
theorem Dr_ins {v : Int} {x : Dn} (h : Dr x) (hv : 0 ≤ v) (hv' : v ≤ 60000) : Dr (ins v x) := by
  obtain ⟨h0, h1⟩ := h
  refine ⟨by unfold ins; simp only; omega, fun i i0 i1 => ?_⟩
  have hp := pl_le x.2 v x.1.toNat
  unfold ins at i1 ⊢
  simp only at i1 ⊢
  split
  · exact h1 i i0 (by omega)
  · split
    · omega
    · exact h1 (i - 1) (by omega) (by omega)
theorem insR_1 (e : Int → Int) (side : Int) (x : Dn) : ∀ k : Nat, x.1 ≤ (insR e side k x).1 ∧ (insR e side k x).1 ≤ x.1 + k
  | 0 => by simp [insR]
  | k + 1 => by
    have := insR_1 e side x k
    rw [insR]; split
    · unfold ins; simp only; omega
    · omega
theorem Dr_insR {e : Int → Int} {side : Int} {x : Dn} (h : Dr x) : ∀ k : Nat, (∀ i, 0 ≤ i → i < 2 + (k : Int) → 0 ≤ e i ∧ e i ≤ 60000) → Dr (insR e side k x)
  | 0, _ => h
  | k + 1, he => by
    have h1 := Dr_insR (e := e) (side := side) h k (fun i i0 i1 => he i i0 (by omega))
    rw [insR]; split
    · have := he (2 + k) (by omega) (by omega)
      exact Dr_ins h1 this.1 this.2
    · exact h1
section
variable {n gap : Int} {d : Int → Int}
theorem fre_r (h0 : 0 ≤ n) (hd : ∀ i, 0 ≤ i → i < n → 1 ≤ d i ∧ d i ≤ 60000) {i : Nat} (hi : i < (FS d n gap).length) {k : Int} (k0 : 0 ≤ k) (k1 : k < (gl (FS d n gap) i).2) : 1 ≤ fre d (FS d n gap) i k ∧ fre d (FS d n gap) i k ≤ 60000 := by
  obtain ⟨a, b, c, e, f⟩ := FS_g h0 hi
  exact hd _ (by omega) (by omega)
theorem insA_r (h0 : 0 ≤ n) (hd : ∀ i, 0 ≤ i → i < n → 1 ≤ d i ∧ d i ≤ 60000) (h5 : 5 ≤ (gl (FS d n gap) 0).2) (side : Int) : ∀ i : Nat, i ≤ (FS d n gap).length → Dr (insA d (FS d n gap) side i) ∧ (insA d (FS d n gap) side i).1 ≤ n ∧ (i < (FS d n gap).length → (insA d (FS d n gap) side i).1 ≤ (gl (FS d n gap) i).1)
  | 0, _ => ⟨⟨by simp [insA], fun i i0 i1 => by simp [insA] at i1; omega⟩, by simp [insA]; exact h0, fun h => (FS_g h0 h).1⟩
  | i + 1, hi => by
    have h1 := insA_r h0 hd h5 side i (by omega)
    have h2 := h1.2.2 (by omega)
    have h3 := FS_g h0 (d := d) (gap := gap) (i := i) (by omega)
    unfold fsG at h3
    rw [insA]
    split
    · rename_i he
      have h4 := insR_1 (fre d (FS d n gap) i) side (insA d (FS d n gap) side i) ((gl (FS d n gap) 0).2 - 2).toNat
      refine ⟨Dr_insR h1.1 _ (fun k k0 k1 => ?_), by omega, fun h => ?_⟩
      · have := fre_r (gap := gap) h0 hd (i := i) (by omega) k0 (by omega)
        omega
      · have := FS_dis h
        omega
    · refine ⟨h1.1, h1.2.1, fun h => ?_⟩
      have := FS_dis h
      omega
theorem hsum_r (h0 : 0 ≤ n) (hd : ∀ i, 0 ≤ i → i < n → 1 ≤ d i ∧ d i ≤ 60000) (h5 : 5 ≤ (gl (FS d n gap) 0).2) {pl : Int} (p0 : 0 ≤ pl) (p1 : pl < 5) : ∀ i : Nat, i ≤ (FS d n gap).length → 0 ≤ (hsum d (FS d n gap) pl i).1 ∧ (hsum d (FS d n gap) pl i).1 ≤ 60000 * (hsum d (FS d n gap) pl i).2 ∧ 0 ≤ (hsum d (FS d n gap) pl i).2 ∧ (hsum d (FS d n gap) pl i).2 ≤ i ∧ (0 < i → 1 ≤ (hsum d (FS d n gap) pl i).2)
  | 0, _ => by simp [hsum]
  | i + 1, hi => by
    have h1 := hsum_r h0 hd h5 p0 p1 i (by omega)
    rw [hsum]
    split
    · rename_i he
      have := fre_r (gap := gap) h0 hd (i := i) (by omega) p0 (by omega)
      simp only; omega
    · rename_i he
      have : i ≠ 0 := by intro h; subst h; exact he rfl
      omega
end
theorem ckS_r (f : Int → Int) (n : Int) : ∀ k : Nat, (ckS f n k).1 ≤ k ∧ (ckS f n k).2.length ≤ k
  | 0 => by simp [ckS]
  | k + 1 => by
    have := ckS_r f n k
    rw [ckS]; split
    · simp; omega
    · omega
theorem sm_r {f : Int → Int} {a : Nat} : ∀ b : Nat, a ≤ b → (∀ i : Nat, i < b → 0 ≤ f i ∧ f i ≤ 60000) → 0 ≤ sm f b - sm f a ∧ sm f b - sm f a ≤ 60000 * ((b : Int) - a)
  | 0, h, _ => by have : a = 0 := by omega
                  subst this; simp
  | b + 1, h, hf => by
    by_cases hab : a = b + 1
    · subst hab; simp
    · have h1 := sm_r (f := f) (a := a) b (by omega) (fun i hi => hf i (by omega))
      have h2 := hf b (by omega)
      rw [sm]; omega
theorem ckS_m {f : Int → Int} {n : Int} : ∀ k : Nat, (∀ i : Nat, i < k → 0 ≤ f i ∧ f i ≤ 60000) → ∀ v ∈ (ckS f n k).2, 0 ≤ v ∧ v ≤ 60000
  | 0, _, v, hv => by simp [ckS] at hv
  | k + 1, hf, v, hv => by
    have h1 := ckS_m (f := f) (n := n) k (fun i hi => hf i (by omega))
    have h2 := ckS_r f n k
    rw [ckS] at hv
    split at hv
    · rcases List.mem_append.mp hv with hv | hv
      · exact h1 v hv
      · have h3 := sm_r (f := f) (a := (ckS f n k).1) (k + 1) (by omega) hf
        simp only [List.mem_singleton] at hv
        subst hv
        refine ⟨Int.ediv_nonneg h3.1 (by omega), ?_⟩
        have : (sm f (k + 1) - sm f (ckS f n k).1) / ((k : Int) + 1 - (ckS f n k).1) ≤ (60000 * ((k : Int) + 1 - (ckS f n k).1)) / ((k : Int) + 1 - (ckS f n k).1) := Int.ediv_le_ediv (by omega) (by have := h3.2; rw [Int.natCast_add] at this; exact this)
        rw [Int.mul_ediv_cancel _ (by omega)] at this
        exact this
    · exact h1 v hv
section
variable {p : Nat → Nat} {z l : Nat → Int → Int}
def isC (c : Nat) : Prop := c = 48 ∨ c = 50
theorem isC_h {c : Nat} (h : isC c) : HH[c]? = some (0, 0) ∧ HH[c + 1]? = some (15, 200) ∧ c ≠ 0 ∧ c ≠ 19 ∧ (RFL.lookup c).bind (fun r => r.lookup 0) = some (c + 1) := by
  rcases h with rfl | rfl <;> exact ⟨rfl, rfl, by decide, by decide, rfl⟩
theorem gI_C {c : Nat} (h : isC c) (j : Nat) : gI (M p z l) 0 c (no_index (OfNat.ofNat j)) = some (I3 (z c (OfNat.ofNat j))) := gI_M _ (isC_h h).1
theorem pI_C {c : Nat} (h : isC c) (j : Nat) (v : Int) : pI (M p z l) 0 c (no_index (OfNat.ofNat j)) (I3 v) = some (M p (up z c (OfNat.ofNat j) v) l) := pI_M _ v (isC_h h).1
theorem iO_C {c : Nat} (h : isC c) {α : Type} (e : Option α) : isO (M p z l) 0 c e = e := isO_M (isC_h h).1
theorem gR_C {c : Nat} (h : isC c) : gR (M p z l) 0 c 0 = some (c + 1) := gR_M (isC_h h).1 (by rw [RF_o (isC_h h).2.2.1 (isC_h h).2.2.2.1]; exact (isC_h h).2.2.2.2)
theorem aI_C {c : Nat} (h : isC c) {i : Int} (h0 : 0 ≤ i) (h1 : i < 200) : aI (M p z l) 15 (c + 1) (I3 i) = some (I3 (z (c + 1) i)) := aI_M (isC_h h).2.1 (by decide) h0 h1
theorem sI_C {c : Nat} (h : isC c) {i : Int} (v : Int) (h0 : 0 ≤ i) (h1 : i < 200) : sI (M p z l) 15 (c + 1) (I3 i) (I3 v) = some (M p (up z (c + 1) i v) l) := sI_M (isC_h h).2.1 (by decide) h0 h1 rfl
set_option maxHeartbeats 4000000 in
theorem w_insert {c : Nat} {v : Int} {x : Dn} (hc : isC c) (hx : Trx z c x) (hD : Dr x) (hv : 0 ≤ v) (hv' : v ≤ 60000) (h1 : x.1 < 200) : WP (f_X0_insert c (I3 v) (M p z l)) (fun μ => ∃ z', μ = M p z' l ∧ Trx z' c (ins v x) ∧ (∀ k, k ≠ c → k ≠ c + 1 → z' k = z k) ∧ ∀ j, j ≠ 1 → z' c j = z c j) := by
  obtain ⟨e1, hd⟩ := hx
  obtain ⟨h0, hr⟩ := hD
  have hne : c ≠ c + 1 := by omega
  unfold f_X0_insert
  simp (disch := first | assumption | omega) only [↓b_hid, bH_some, ↓hid_W, W_some, I3_a, I3_s, I3_m, I3_n, I3_l, I3_lt, I3_le, I3_e, I3_dv, I3_rm, I3_mx, I3_mn, I3_ab, cI, bI_0, bI_1, rZ_b, up_same, up_row, up_col, xr_some, LQ_r, LQ_l, Int.sub_self, Int.add_zero, Int.zero_add, Int.sub_zero, Int.neg_neg, not_true_eq_false, not_false_eq_true, Int.add_sub_cancel, ↓ite_iH, iH_t, iH_f, bH_iH, ↓bH_bind, xr_iH, ↓xr_bind, W_iH, WI_t, WI_f, gI_C, e1, iH_pos, iH_neg, WI_pos, WI_neg]
  generalize hn : x.1.toNat = n
  have hn' : x.1 = (n : Int) := by omega
  rw [hn']
  unfold f_X0_insert_16
  refine lp_W (fun m st => ∃ (e : Nat) (z' : Nat → Int → Int), st = (c, I3 v, I3 e, M p z' l) ∧ e ≤ n ∧ m = e ∧ (∀ k, k ≠ c + 1 → z' k = z k) ∧ pl x.2 v n = pl x.2 v e ∧ (∀ i, 0 ≤ i → i < (e : Int) → z' (c + 1) i = x.2 i) ∧ ∀ i, (e : Int) < i → i ≤ (n : Int) → z' (c + 1) i = x.2 (i - 1)) (fun m st hst => ?_) ⟨n, z, rfl, by omega, rfl, fun _ _ => rfl, rfl, fun i i0 i1 => hd i i0 (by omega), fun i i0 i1 => by omega⟩
  obtain ⟨e, z', rfl, he, rfl, hF, hp, ha, hb⟩ := hst
  have e1' : z' c 1 = n := by rw [hF c hne, e1]; exact hn'
  have fin : pl x.2 v e = e → WP (f_X0_insert_52 c (I3 v) (I3 e) (M p z' l)) (fun μ => ∃ z', μ = M p z' l ∧ Trx z' c (ins v x) ∧ (∀ k, k ≠ c → k ≠ c + 1 → z' k = z k) ∧ ∀ j, j ≠ 1 → z' c j = z c j) := by
    intro hpe
    unfold f_X0_insert_52
    simp (disch := first | assumption | omega) only [↓b_hid, bH_some, ↓hid_W, W_some, I3_a, I3_s, I3_m, I3_n, I3_l, I3_lt, I3_le, I3_e, I3_dv, I3_rm, I3_mx, I3_mn, I3_ab, cI, bI_0, bI_1, rZ_b, up_same, up_row, up_col, xr_some, LQ_r, LQ_l, Int.sub_self, Int.add_zero, Int.zero_add, Int.sub_zero, Int.neg_neg, not_true_eq_false, not_false_eq_true, Int.add_sub_cancel, ↓ite_iH, iH_t, iH_f, bH_iH, ↓bH_bind, xr_iH, ↓xr_bind, W_iH, WI_t, WI_f, gR_C, sI_C, gI_C, pI_C, e1']
    rw [up_row hne, e1']
    refine ⟨_, rfl, ⟨?_, fun i i0 i1 => ?_⟩, fun k k0 k1 => by rw [up_row k0, up_row k1]; exact hF k k1, fun j hj => by rw [up_col hj, up_row hne, hF c hne]⟩
    · rw [up_same]; unfold ins; simp only; omega
    · unfold ins at i1 ⊢
      simp only at i1 ⊢
      rw [hn, hp, hpe, up_row (by omega)]
      by_cases hi : i < e
      · rw [if_pos hi, up_col (by omega)]; exact ha i i0 hi
      · rw [if_neg hi]
        by_cases hi2 : i = e
        · rw [if_pos hi2, hi2, up_same]
        · rw [if_neg hi2, up_col hi2]; exact hb i (by omega) (by omega)
  unfold f_X0_insert_16_b
  by_cases he0 : e = 0
  · subst he0
    have := fin rfl
    simp (disch := first | assumption | omega) only [↓b_hid, bH_some, ↓hid_W, W_some, I3_a, I3_s, I3_m, I3_n, I3_l, I3_lt, I3_le, I3_e, I3_dv, I3_rm, I3_mx, I3_mn, I3_ab, cI, bI_0, bI_1, rZ_b, up_same, up_row, up_col, xr_some, LQ_r, LQ_l, Int.sub_self, Int.add_zero, Int.zero_add, Int.sub_zero, Int.neg_neg, not_true_eq_false, not_false_eq_true, Int.add_sub_cancel, ↓ite_iH, iH_t, iH_f, bH_iH, ↓bH_bind, xr_iH, ↓xr_bind, W_iH, WI_t, WI_f, iH_pos, iH_neg, WI_pos, WI_neg]
    refine W_xr ?_
    simp only [LQ_r]
    exact this
  · obtain ⟨k, rfl⟩ : ∃ k, e = k + 1 := ⟨e - 1, by omega⟩
    have ek : ((k + 1 : Nat) : Int) - 1 = k := by omega
    have er : z' (c + 1) k = x.2 k := ha k (by omega) (by omega)
    have hrk := hr k (by omega) (by omega)
    by_cases hvk : v < x.2 k
    · have ek2 : ((k + 1 : Nat) : Int) + -1 = k := by omega
      simp (disch := first | assumption | omega) only [↓b_hid, bH_some, ↓hid_W, W_some, I3_a, I3_s, I3_m, I3_n, I3_l, I3_lt, I3_le, I3_e, I3_dv, I3_rm, I3_mx, I3_mn, I3_ab, cI, bI_0, bI_1, rZ_b, up_same, up_row, up_col, xr_some, LQ_r, LQ_l, Int.sub_self, Int.add_zero, Int.zero_add, Int.sub_zero, Int.neg_neg, not_true_eq_false, not_false_eq_true, Int.add_sub_cancel, ↓ite_iH, iH_t, iH_f, bH_iH, ↓bH_bind, xr_iH, ↓xr_bind, W_iH, WI_t, WI_f, gR_C, aI_C, sI_C, ek, er, ek2, iH_pos, iH_neg, WI_pos, WI_neg]
      refine ⟨k, by omega, k, _, rfl, by omega, rfl, fun c' hc' => by rw [up_row hc']; exact hF c' hc', ?_, fun i i0 i1 => ?_, fun i i0 i1 => ?_⟩
      · rw [hp, pl, if_pos hvk]
      · rw [up_col (by omega)]; exact ha i i0 (by omega)
      · by_cases hi : i = ((k + 1 : Nat) : Int)
        · rw [hi, up_same, ek]
        · rw [up_col hi]; exact hb i (by omega) i1
    · have := fin (by rw [pl, if_neg hvk])
      simp (disch := first | assumption | omega) only [↓b_hid, bH_some, ↓hid_W, W_some, I3_a, I3_s, I3_m, I3_n, I3_l, I3_lt, I3_le, I3_e, I3_dv, I3_rm, I3_mx, I3_mn, I3_ab, cI, bI_0, bI_1, rZ_b, up_same, up_row, up_col, xr_some, LQ_r, LQ_l, Int.sub_self, Int.add_zero, Int.zero_add, Int.sub_zero, Int.neg_neg, not_true_eq_false, not_false_eq_true, Int.add_sub_cancel, ↓ite_iH, iH_t, iH_f, bH_iH, ↓bH_bind, xr_iH, ↓xr_bind, W_iH, WI_t, WI_f, gR_C, aI_C, ek, er, iH_pos, iH_neg, WI_pos, WI_neg]
      refine W_xr ?_
      simp only [LQ_r]
      exact this
set_option maxHeartbeats 4000000 in
theorem w_insertAll {n gap : Int} {d : Int → Int} {i : Nat} {x y : Dn} (hF : Fs z n d gap) (h0 : 0 ≤ n) (h1 : n ≤ 200) (hd : ∀ i, 0 ≤ i → i < n → 1 ≤ d i ∧ d i ≤ 60000) (hi : i < (FS d n gap).length) (h2 : z 47 2 = (gl (FS d n gap) i).2) (h5 : 5 ≤ (gl (FS d n gap) i).2) (hx : Trx z 48 x) (hy : Trx z 50 y) (hDx : Dr x) (hDy : Dr y) (hx1 : x.1 ≤ (gl (FS d n gap) i).1) (hy1 : y.1 ≤ (gl (FS d n gap) i).1) : WP (f_X4_insertAll 47 35 (I3 i) (M p z l)) (fun μ => ∃ z', μ = M p z' l ∧ Trx z' 48 (insR (fre d (FS d n gap) i) 0 ((gl (FS d n gap) i).2 - 2).toNat x) ∧ Trx z' 50 (insR (fre d (FS d n gap) i) 1 ((gl (FS d n gap) i).2 - 2).toNat y) ∧ ∀ k, k < 48 ∨ 52 ≤ k → z' k = z k) := by
  obtain ⟨g1, g2, g3, g4, g5⟩ := FS_g h0 hi
  generalize hm : (gl (FS d n gap) i).2 = m at *
  unfold f_X4_insertAll f_X4_insertAll_2
  refine lp_W (fun t st => ∃ (k : Nat) (z' : Nat → Int → Int), st = (47, 35, I3 i, I3 (2 + k), M p z' l) ∧ 2 + (k : Int) ≤ m ∧ t = (m - 2).toNat - k ∧ Trx z' 48 (insR (fre d (FS d n gap) i) 0 k x) ∧ Trx z' 50 (insR (fre d (FS d n gap) i) 1 k y) ∧ ∀ c, c < 48 ∨ 52 ≤ c → z' c = z c) (fun t st hst => ?_) ⟨0, z, rfl, by omega, rfl, hx, hy, fun _ _ => rfl⟩
  obtain ⟨k, z', rfl, hk, rfl, hX, hY, hC⟩ := hst
  have e2 : z' 47 2 = m := by rw [hC 47 (by decide)]; exact h2
  have hF' : Fs z' n d gap := by
    obtain ⟨x1, x2, x3⟩ := hF
    exact ⟨Tr_congr (hC 38 (by decide)) (hC 39 (by decide)) x1, by rw [hC 35 (by decide)]; exact x2, by rw [hC 36 (by decide), hC 37 (by decide)]; exact x3⟩
  unfold f_X4_insertAll_2_b
  by_cases hkm : 2 + (k : Int) < m
  · have hda := g_durAt (p := p) (l := l) (k := 2 + k) hF' h0 h1 hi (by omega) (by rw [hm]; exact hkm)
    have hfr : d ((gl (FS d n gap) i).1 + (2 + k)) = fre d (FS d n gap) i (2 + k) := rfl
    have hfv := fre_r (gap := gap) h0 hd hi (k := 2 + k) (by omega) (by rw [hm]; exact hkm)
    rw [hfr] at hda
    have lx := insR_1 (fre d (FS d n gap) i) 0 x k
    have ly := insR_1 (fre d (FS d n gap) i) 1 y k
    have hfd : ∀ j, 0 ≤ j → j < 2 + (k : Int) → 0 ≤ fre d (FS d n gap) i j ∧ fre d (FS d n gap) i j ≤ 60000 := fun j j0 j1 => by
      have := fre_r (gap := gap) h0 hd hi (k := j) j0 (by rw [hm]; omega)
      omega
    have dx := Dr_insR (side := 0) hDx k hfd
    have dy := Dr_insR (side := 1) hDy k hfd
    by_cases hpar : (2 + (k : Int)) % 2 = 0
    · simp (disch := first | assumption | omega) only [↓b_hid, bH_some, ↓hid_W, W_some, I3_a, I3_s, I3_m, I3_n, I3_l, I3_lt, I3_le, I3_e, I3_dv, I3_rm, I3_mx, I3_mn, I3_ab, cI, bI_0, bI_1, rZ_b, up_same, up_row, up_col, xr_some, LQ_r, LQ_l, Int.sub_self, Int.add_zero, Int.zero_add, Int.sub_zero, Int.neg_neg, not_true_eq_false, not_false_eq_true, Int.add_sub_cancel, ↓ite_iH, iH_t, iH_f, bH_iH, ↓bH_bind, xr_iH, ↓xr_bind, W_iH, WI_t, WI_f, gI_47, pI_47, iO_47, gR_47_0, gR_47_1, e2, gR_47_0, f_X4_insertAll_27, iO_35, hda, iH_pos, iH_neg, WI_pos, WI_neg]
      refine W_bH (W_imp (w_insert (Or.inl rfl) hX dx (by omega) (by omega) (by omega)) ?_)
      rintro _ ⟨z2, rfl, b1, b2, b3⟩
      simp (disch := first | assumption | omega) only [↓b_hid, bH_some, ↓hid_W, W_some, I3_a, I3_s, I3_m, I3_n, I3_l, I3_lt, I3_le, I3_e, I3_dv, I3_rm, I3_mx, I3_mn, I3_ab, cI, bI_0, bI_1, rZ_b, up_same, up_row, up_col, xr_some, LQ_r, LQ_l, Int.sub_self, Int.add_zero, Int.zero_add, Int.sub_zero, Int.neg_neg, not_true_eq_false, not_false_eq_true, Int.add_sub_cancel, ↓ite_iH, iH_t, iH_f, bH_iH, ↓bH_bind, xr_iH, ↓xr_bind, W_iH, WI_t, WI_f]
      refine ⟨_, ?_, k + 1, z2, by rw [Int.natCast_add, ← Int.add_assoc]; rfl, by omega, rfl, ?_, ?_, fun c hc => (b2 c (by omega) (by omega)).trans (hC c hc)⟩
      · omega
      · rw [insR, if_pos hpar]; exact b1
      · rw [insR, if_neg (by omega)]; exact Tr_congr (b2 50 (by decide) (by decide)) (b2 51 (by decide) (by decide)) hY
    · simp (disch := first | assumption | omega) only [↓b_hid, bH_some, ↓hid_W, W_some, I3_a, I3_s, I3_m, I3_n, I3_l, I3_lt, I3_le, I3_e, I3_dv, I3_rm, I3_mx, I3_mn, I3_ab, cI, bI_0, bI_1, rZ_b, up_same, up_row, up_col, xr_some, LQ_r, LQ_l, Int.sub_self, Int.add_zero, Int.zero_add, Int.sub_zero, Int.neg_neg, not_true_eq_false, not_false_eq_true, Int.add_sub_cancel, ↓ite_iH, iH_t, iH_f, bH_iH, ↓bH_bind, xr_iH, ↓xr_bind, W_iH, WI_t, WI_f, gI_47, pI_47, iO_47, gR_47_0, gR_47_1, e2, gR_47_1, f_X4_insertAll_27, iO_35, hda, iH_pos, iH_neg, WI_pos, WI_neg]
      refine W_bH (W_imp (w_insert (Or.inr rfl) hY dy (by omega) (by omega) (by omega)) ?_)
      rintro _ ⟨z2, rfl, b1, b2, b3⟩
      simp (disch := first | assumption | omega) only [↓b_hid, bH_some, ↓hid_W, W_some, I3_a, I3_s, I3_m, I3_n, I3_l, I3_lt, I3_le, I3_e, I3_dv, I3_rm, I3_mx, I3_mn, I3_ab, cI, bI_0, bI_1, rZ_b, up_same, up_row, up_col, xr_some, LQ_r, LQ_l, Int.sub_self, Int.add_zero, Int.zero_add, Int.sub_zero, Int.neg_neg, not_true_eq_false, not_false_eq_true, Int.add_sub_cancel, ↓ite_iH, iH_t, iH_f, bH_iH, ↓bH_bind, xr_iH, ↓xr_bind, W_iH, WI_t, WI_f]
      refine ⟨_, ?_, k + 1, z2, by rw [Int.natCast_add, ← Int.add_assoc]; rfl, by omega, rfl, ?_, ?_, fun c hc => (b2 c (by omega) (by omega)).trans (hC c hc)⟩
      · omega
      · rw [insR, if_neg hpar]; exact Tr_congr (b2 48 (by decide) (by decide)) (b2 49 (by decide) (by decide)) hX
      · rw [insR, if_pos (by omega)]; exact b1
  · have hke : (m - 2).toNat = k := by omega
    rw [hke]
    simp (disch := first | assumption | omega) only [↓b_hid, bH_some, ↓hid_W, W_some, I3_a, I3_s, I3_m, I3_n, I3_l, I3_lt, I3_le, I3_e, I3_dv, I3_rm, I3_mx, I3_mn, I3_ab, cI, bI_0, bI_1, rZ_b, up_same, up_row, up_col, xr_some, LQ_r, LQ_l, Int.sub_self, Int.add_zero, Int.zero_add, Int.sub_zero, Int.neg_neg, not_true_eq_false, not_false_eq_true, Int.add_sub_cancel, ↓ite_iH, iH_t, iH_f, bH_iH, ↓bH_bind, xr_iH, ↓xr_bind, W_iH, WI_t, WI_f, gI_47, pI_47, iO_47, gR_47_0, gR_47_1, e2, f_X4_insertAll_42, iH_pos, iH_neg, WI_pos, WI_neg]
    exact ⟨z', rfl, hX, hY, hC⟩
theorem g_mean {c a b : Nat} {x : Dn} (hc : isC c) (hx : Trx z c x) (hD : Dr x) (hab : a < b) (hb : (b : Int) ≤ x.1) (h2 : x.1 ≤ 200) : f_X0_mean c (I3 a) (I3 b) (M p z l) = some (I3 ((sm x.2 b - sm x.2 a) / ((b : Int) - a)), M p z l) := by
  have hf : ∀ i : Nat, i < b → 0 ≤ x.2 i ∧ x.2 i ≤ 60000 := fun i hi => hD.2 i (by omega) (by omega)
  have hs := sm_r (f := x.2) (a := a) b (by omega) hf
  have e0 : (if (a : Int) < 0 then (0 : Int) else a) = a := if_neg (by omega)
  apply W_eq
  unfold f_X0_mean
  simp (disch := first | assumption | omega) only [↓b_hid, bH_some, ↓hid_W, W_some, I3_a, I3_s, I3_m, I3_n, I3_l, I3_lt, I3_le, I3_e, I3_dv, I3_rm, I3_mx, I3_mn, I3_ab, cI, bI_0, bI_1, rZ_b, up_same, up_row, up_col, xr_some, LQ_r, LQ_l, Int.sub_self, Int.add_zero, Int.zero_add, Int.sub_zero, Int.neg_neg, not_true_eq_false, not_false_eq_true, Int.add_sub_cancel, ↓ite_iH, iH_t, iH_f, bH_iH, ↓bH_bind, xr_iH, ↓xr_bind, W_iH, WI_t, WI_f, e0]
  unfold f_X0_mean_9
  refine lp_W (fun m st => ∃ i : Nat, st = (c, I3 a, I3 b, I3 (sm x.2 i - sm x.2 a), I3 i, M p z l) ∧ a ≤ i ∧ i ≤ b ∧ m = b - i) (fun m st hst => ?_) ⟨a, by rw [Int.sub_self]; simp only [I3_l], by omega, by omega, rfl⟩
  obtain ⟨i, rfl, hi, hi2, rfl⟩ := hst
  have hsi := sm_r (f := x.2) (a := a) i hi (fun k hk => hf k (by omega))
  unfold f_X0_mean_9_b
  by_cases hib : i < b
  · have er : z (c + 1) i = x.2 i := hx.2 i (by omega) (by omega)
    have es : sm x.2 i - sm x.2 a + x.2 i = sm x.2 (i + 1) - sm x.2 a := by rw [sm]; omega
    simp (disch := first | assumption | omega) only [↓b_hid, bH_some, ↓hid_W, W_some, I3_a, I3_s, I3_m, I3_n, I3_l, I3_lt, I3_le, I3_e, I3_dv, I3_rm, I3_mx, I3_mn, I3_ab, cI, bI_0, bI_1, rZ_b, up_same, up_row, up_col, xr_some, LQ_r, LQ_l, Int.sub_self, Int.add_zero, Int.zero_add, Int.sub_zero, Int.neg_neg, not_true_eq_false, not_false_eq_true, Int.add_sub_cancel, ↓ite_iH, iH_t, iH_f, bH_iH, ↓bH_bind, xr_iH, ↓xr_bind, W_iH, WI_t, WI_f, gR_C, aI_C, er, es, iH_pos, iH_neg, WI_pos, WI_neg]
    refine ⟨_, ?_, i + 1, by rw [Int.natCast_add]; rfl, by omega, by omega, rfl⟩
    omega
  · have : i = b := by omega
    subst this
    simp (disch := first | assumption | omega) only [↓b_hid, bH_some, ↓hid_W, W_some, I3_a, I3_s, I3_m, I3_n, I3_l, I3_lt, I3_le, I3_e, I3_dv, I3_rm, I3_mx, I3_mn, I3_ab, cI, bI_0, bI_1, rZ_b, up_same, up_row, up_col, xr_some, LQ_r, LQ_l, Int.sub_self, Int.add_zero, Int.zero_add, Int.sub_zero, Int.neg_neg, not_true_eq_false, not_false_eq_true, Int.add_sub_cancel, ↓ite_iH, iH_t, iH_f, bH_iH, ↓bH_bind, xr_iH, ↓xr_bind, W_iH, WI_t, WI_f, f_X0_mean_39, iH_pos, iH_neg, WI_pos, WI_neg]
/-- the clusters that are noted -/
def Cc (z : Nat → Int → Int) (c : Nat) (L : List Int) : Prop := z c 2 = L.length ∧ (1 ≤ L.length → z c 3 = lf L 0) ∧ (2 ≤ L.length → z c 4 = lf L 1)
theorem w_noteC {c : Nat} {v : Int} {L : List Int} (hc : isC c) (h : Cc z c L) (hL : L.length < 1000) : WP (f_X0_noteCluster c (I3 v) (M p z l)) (fun μ => ∃ z', μ = M p z' l ∧ Cc z' c (L ++ [v]) ∧ (∀ k, k ≠ c → z' k = z k) ∧ z' c 1 = z c 1) := by
  obtain ⟨a, b, d⟩ := h
  have hl : (L ++ [v]).length = L.length + 1 := by simp
  unfold f_X0_noteCluster
  by_cases h0 : L.length = 0
  · have a0 : z c 2 = 0 := by omega
    have : L = [] := List.eq_nil_of_length_eq_zero h0
    subst this
    simp (disch := first | assumption | omega) only [↓b_hid, bH_some, ↓hid_W, W_some, I3_a, I3_s, I3_m, I3_n, I3_l, I3_lt, I3_le, I3_e, I3_dv, I3_rm, I3_mx, I3_mn, I3_ab, cI, bI_0, bI_1, rZ_b, up_same, up_row, up_col, xr_some, LQ_r, LQ_l, Int.sub_self, Int.add_zero, Int.zero_add, Int.sub_zero, Int.neg_neg, not_true_eq_false, not_false_eq_true, Int.add_sub_cancel, ↓ite_iH, iH_t, iH_f, bH_iH, ↓bH_bind, xr_iH, ↓xr_bind, W_iH, WI_t, WI_f, gI_C, pI_C, a0, f_X0_noteCluster_28, iH_pos, iH_neg, WI_pos, WI_neg]
    refine ⟨_, rfl, ⟨?_, fun _ => ?_, fun h => ?_⟩, fun k hk => by rw [up_row hk, up_row hk], by simp (disch := omega) only [up_col]⟩
    · rw [up_same]; rfl
    · rw [up_col (by decide), up_same]; rfl
    · simp at h
  · by_cases h1 : L.length = 1
    · have a0 : z c 2 = 1 := by omega
      simp (disch := first | assumption | omega) only [↓b_hid, bH_some, ↓hid_W, W_some, I3_a, I3_s, I3_m, I3_n, I3_l, I3_lt, I3_le, I3_e, I3_dv, I3_rm, I3_mx, I3_mn, I3_ab, cI, bI_0, bI_1, rZ_b, up_same, up_row, up_col, xr_some, LQ_r, LQ_l, Int.sub_self, Int.add_zero, Int.zero_add, Int.sub_zero, Int.neg_neg, not_true_eq_false, not_false_eq_true, Int.add_sub_cancel, ↓ite_iH, iH_t, iH_f, bH_iH, ↓bH_bind, xr_iH, ↓xr_bind, W_iH, WI_t, WI_f, gI_C, pI_C, a0, f_X0_noteCluster_28, iH_pos, iH_neg, WI_pos, WI_neg]
      refine ⟨_, rfl, ⟨?_, fun _ => ?_, fun h => ?_⟩, fun k hk => by rw [up_row hk, up_row hk], by simp (disch := omega) only [up_col]⟩
      · rw [up_same]; omega
      · rw [up_col (by decide), up_col (by decide), b (by omega), lf_app (by omega), if_pos (by omega)]
      · rw [up_col (by decide), up_same, lf_app (by omega), if_neg (by omega), if_pos (by omega)]
    · have a2 : 2 ≤ z c 2 := by omega
      simp (disch := first | assumption | omega) only [↓b_hid, bH_some, ↓hid_W, W_some, I3_a, I3_s, I3_m, I3_n, I3_l, I3_lt, I3_le, I3_e, I3_dv, I3_rm, I3_mx, I3_mn, I3_ab, cI, bI_0, bI_1, rZ_b, up_same, up_row, up_col, xr_some, LQ_r, LQ_l, Int.sub_self, Int.add_zero, Int.zero_add, Int.sub_zero, Int.neg_neg, not_true_eq_false, not_false_eq_true, Int.add_sub_cancel, ↓ite_iH, iH_t, iH_f, bH_iH, ↓bH_bind, xr_iH, ↓xr_bind, W_iH, WI_t, WI_f, gI_C, pI_C, f_X0_noteCluster_28, iH_pos, iH_neg, WI_pos, WI_neg]
      refine ⟨_, rfl, ⟨?_, fun _ => ?_, fun h => ?_⟩, fun k hk => by rw [up_row hk], by simp (disch := omega) only [up_col]⟩
      · rw [up_same]; omega
      · rw [up_col (by decide), b (by omega), lf_app (by omega), if_pos (by omega)]
      · rw [up_col (by decide), d (by omega), lf_app (by omega), if_pos (by omega)]
set_option maxHeartbeats 4000000 in
theorem w_cut {c : Nat} {x : Dn} (hc : isC c) (hx : Trx z c x) (hD : Dr x) (h2 : x.1 ≤ 200) : WP (f_X0_cut c (M p z l)) (fun μ => ∃ z', μ = M p z' l ∧ Cc z' c (cmeans x) ∧ ∀ k, k ≠ c → z' k = z k) := by
  have hne : c ≠ c + 1 := by omega
  have hx0 := hD.1
  unfold f_X0_cut
  simp (disch := first | assumption | omega) only [↓b_hid, bH_some, ↓hid_W, W_some, I3_a, I3_s, I3_m, I3_n, I3_l, I3_lt, I3_le, I3_e, I3_dv, I3_rm, I3_mx, I3_mn, I3_ab, cI, bI_0, bI_1, rZ_b, up_same, up_row, up_col, xr_some, LQ_r, LQ_l, Int.sub_self, Int.add_zero, Int.zero_add, Int.sub_zero, Int.neg_neg, not_true_eq_false, not_false_eq_true, Int.add_sub_cancel, ↓ite_iH, iH_t, iH_f, bH_iH, ↓bH_bind, xr_iH, ↓xr_bind, W_iH, WI_t, WI_f, pI_C]
  generalize hn : x.1.toNat = n
  have hn' : x.1 = (n : Int) := by omega
  have hcm : cmeans x = (ckS x.2 n n).2 := by unfold cmeans; rw [hn, hn']
  rw [hcm]
  unfold f_X0_cut_9
  refine lp_W (fun m st => ∃ (k : Nat) (z' : Nat → Int → Int), st = (c, I3 (ckS x.2 n k).1, I3 (k + 1), M p z' l) ∧ k ≤ n ∧ m = n - k ∧ (∀ c', c' ≠ c → z' c' = z c') ∧ z' c 1 = n ∧ Cc z' c (ckS x.2 n k).2) (fun m st hst => ?_) ⟨0, _, rfl, by omega, rfl, fun c' hc' => up_row hc' _ _ _, by rw [up_col (by decide), hx.1]; exact hn', ⟨up_same _ _ _ _, fun h => by simp [ckS] at h, fun h => by simp [ckS] at h⟩⟩
  obtain ⟨k, z', rfl, hk, rfl, hF, e1, hC⟩ := hst
  have hr := ckS_r x.2 n k
  have hX : Trx z' c x := ⟨by rw [e1]; exact hn'.symm, by rw [hF (c + 1) (by omega)]; exact hx.2⟩
  have hX1 : Trx z' c ((n : Int), x.2) := ⟨e1, fun i i0 i1 => hX.2 i i0 (by rw [hn']; exact i1)⟩
  unfold f_X0_cut_9_b
  by_cases hkn : k < n
  · have hgo : (k : Int) + 1 = n ∨ 3 * x.2 k < 2 * x.2 (k + 1) → WP (f_X0_cut_53 c (I3 (ckS x.2 n k).1) (I3 (k + 1)) (M p z' l)) (LQ (fun μ => ∃ z', μ = M p z' l ∧ Cc z' c (ckS x.2 n n).2 ∧ ∀ k, k ≠ c → z' k = z k) (fun m st => ∃ (k : Nat) (z' : Nat → Int → Int), st = (c, I3 (ckS x.2 n k).1, I3 (k + 1), M p z' l) ∧ k ≤ n ∧ m = n - k ∧ (∀ c', c' ≠ c → z' c' = z c') ∧ z' c 1 = n ∧ Cc z' c (ckS x.2 n k).2) (n - k)) := by
      intro hcut
      have hs : ckS x.2 n (k + 1) = (k + 1, (ckS x.2 n k).2 ++ [(sm x.2 (k + 1) - sm x.2 (ckS x.2 n k).1) / ((k : Int) + 1 - (ckS x.2 n k).1)]) := by rw [ckS, if_pos hcut]
      have gm := g_mean (p := p) (z := z') (l := l) (c := c) (a := (ckS x.2 n k).1) (b := k + 1) hc hX hD (by omega) (by omega) h2
      rw [Int.natCast_add] at gm
      have gm : f_X0_mean c (I3 (ckS x.2 n k).1) (I3 ((k : Int) + 1)) (M p z' l) = some (I3 ((sm x.2 (k + 1) - sm x.2 (ckS x.2 n k).1) / ((k : Int) + 1 - (ckS x.2 n k).1)), M p z' l) := gm
      unfold f_X0_cut_53
      simp (disch := first | assumption | omega) only [↓b_hid, bH_some, ↓hid_W, W_some, I3_a, I3_s, I3_m, I3_n, I3_l, I3_lt, I3_le, I3_e, I3_dv, I3_rm, I3_mx, I3_mn, I3_ab, cI, bI_0, bI_1, rZ_b, up_same, up_row, up_col, xr_some, LQ_r, LQ_l, Int.sub_self, Int.add_zero, Int.zero_add, Int.sub_zero, Int.neg_neg, not_true_eq_false, not_false_eq_true, Int.add_sub_cancel, ↓ite_iH, iH_t, iH_f, bH_iH, ↓bH_bind, xr_iH, ↓xr_bind, W_iH, WI_t, WI_f, iO_C, gm]
      refine W_bH (W_imp (w_noteC hc hC (by omega)) ?_)
      rintro _ ⟨z2, rfl, b1, b2, b3⟩
      unfold f_X0_cut_65
      simp (disch := first | assumption | omega) only [↓b_hid, bH_some, ↓hid_W, W_some, I3_a, I3_s, I3_m, I3_n, I3_l, I3_lt, I3_le, I3_e, I3_dv, I3_rm, I3_mx, I3_mn, I3_ab, cI, bI_0, bI_1, rZ_b, up_same, up_row, up_col, xr_some, LQ_r, LQ_l, Int.sub_self, Int.add_zero, Int.zero_add, Int.sub_zero, Int.neg_neg, not_true_eq_false, not_false_eq_true, Int.add_sub_cancel, ↓ite_iH, iH_t, iH_f, bH_iH, ↓bH_bind, xr_iH, ↓xr_bind, W_iH, WI_t, WI_f]
      refine ⟨_, ?_, k + 1, z2, by rw [hs, Int.natCast_add]; rfl, by omega, rfl, fun c' hc' => (b2 c' hc').trans (hF c' hc'), b3.trans e1, ?_⟩
      · omega
      · rw [hs]; exact b1
    by_cases hlast : (k : Int) + 1 = n
    · have := hgo (Or.inl hlast)
      simp (disch := first | assumption | omega) only [↓b_hid, bH_some, ↓hid_W, W_some, I3_a, I3_s, I3_m, I3_n, I3_l, I3_lt, I3_le, I3_e, I3_dv, I3_rm, I3_mx, I3_mn, I3_ab, cI, bI_0, bI_1, rZ_b, up_same, up_row, up_col, xr_some, LQ_r, LQ_l, Int.sub_self, Int.add_zero, Int.zero_add, Int.sub_zero, Int.neg_neg, not_true_eq_false, not_false_eq_true, Int.add_sub_cancel, ↓ite_iH, iH_t, iH_f, bH_iH, ↓bH_bind, xr_iH, ↓xr_bind, W_iH, WI_t, WI_f, gI_C, e1, iH_pos, iH_neg, WI_pos, WI_neg]
      exact this
    · have er1 : z' (c + 1) ((k : Int) + 1) = x.2 (k + 1) := hX.2 _ (by omega) (by omega)
      have er0 : z' (c + 1) k = x.2 k := hX.2 _ (by omega) (by omega)
      have r1 := hD.2 ((k : Int) + 1) (by omega) (by omega)
      have r0 := hD.2 k (by omega) (by omega)
      have ek : (k : Int) + 1 - 1 = k := by omega
      by_cases hcut : 3 * x.2 k < 2 * x.2 (k + 1)
      · have := hgo (Or.inr hcut)
        simp (disch := first | assumption | omega) only [↓b_hid, bH_some, ↓hid_W, W_some, I3_a, I3_s, I3_m, I3_n, I3_l, I3_lt, I3_le, I3_e, I3_dv, I3_rm, I3_mx, I3_mn, I3_ab, cI, bI_0, bI_1, rZ_b, up_same, up_row, up_col, xr_some, LQ_r, LQ_l, Int.sub_self, Int.add_zero, Int.zero_add, Int.sub_zero, Int.neg_neg, not_true_eq_false, not_false_eq_true, Int.add_sub_cancel, ↓ite_iH, iH_t, iH_f, bH_iH, ↓bH_bind, xr_iH, ↓xr_bind, W_iH, WI_t, WI_f, gI_C, e1, gR_C, aI_C, er1, ek, er0, iH_pos, iH_neg, WI_pos, WI_neg]
        exact this
      · simp (disch := first | assumption | omega) only [↓b_hid, bH_some, ↓hid_W, W_some, I3_a, I3_s, I3_m, I3_n, I3_l, I3_lt, I3_le, I3_e, I3_dv, I3_rm, I3_mx, I3_mn, I3_ab, cI, bI_0, bI_1, rZ_b, up_same, up_row, up_col, xr_some, LQ_r, LQ_l, Int.sub_self, Int.add_zero, Int.zero_add, Int.sub_zero, Int.neg_neg, not_true_eq_false, not_false_eq_true, Int.add_sub_cancel, ↓ite_iH, iH_t, iH_f, bH_iH, ↓bH_bind, xr_iH, ↓xr_bind, W_iH, WI_t, WI_f, gI_C, e1, gR_C, aI_C, er1, ek, er0, f_X0_cut_65, iH_pos, iH_neg, WI_pos, WI_neg]
        have hs : ckS x.2 n (k + 1) = ckS x.2 n k := by rw [ckS, if_neg (by omega)]
        refine ⟨_, ?_, k + 1, z', by rw [hs, Int.natCast_add]; rfl, by omega, rfl, hF, e1, ?_⟩
        · omega
        · rw [hs]; exact hC
  · have : k = n := by omega
    subst this
    simp (disch := first | assumption | omega) only [↓b_hid, bH_some, ↓hid_W, W_some, I3_a, I3_s, I3_m, I3_n, I3_l, I3_lt, I3_le, I3_e, I3_dv, I3_rm, I3_mx, I3_mn, I3_ab, cI, bI_0, bI_1, rZ_b, up_same, up_row, up_col, xr_some, LQ_r, LQ_l, Int.sub_self, Int.add_zero, Int.zero_add, Int.sub_zero, Int.neg_neg, not_true_eq_false, not_false_eq_true, Int.add_sub_cancel, ↓ite_iH, iH_t, iH_f, bH_iH, ↓bH_bind, xr_iH, ↓xr_bind, W_iH, WI_t, WI_f, gI_C, e1, f_X0_cut_71, iH_pos, iH_neg, WI_pos, WI_neg]
    exact ⟨z', rfl, hC, hF⟩
set_option maxHeartbeats 4000000 in
theorem w_gather {n gap : Int} {d : Int → Int} (hF : Fs z n d gap) (h0 : 0 ≤ n) (h1 : n ≤ 200) (hd : ∀ i, 0 ≤ i → i < n → 1 ≤ d i ∧ d i ≤ 60000) : WP (f_X4_gather 47 35 (M p z l)) (fun r => ∃ v z', r = (I3 v, M p z' l) ∧ (∀ k, k < 47 ∨ 52 ≤ k → z' k = z k) ∧ ((v = 0 ∧ (n = 0 ∨ (gl (FS d n gap) 0).2 < 5)) ∨ (v = 1 ∧ 0 < n ∧ 5 ≤ (gl (FS d n gap) 0).2 ∧ z' 47 2 = (gl (FS d n gap) 0).2 ∧ z' 47 3 = hmean d (FS d n gap) 0 ∧ z' 47 4 = hmean d (FS d n gap) 1 ∧ Cc z' 48 (cmeans (insA d (FS d n gap) 0 (FS d n gap).length)) ∧ Cc z' 50 (cmeans (insA d (FS d n gap) 1 (FS d n gap).length))))) := by
  unfold f_X4_gather
  by_cases hn0 : n = 0
  · have gs := g_sizeOf0 (p := p) (l := l) hF hn0
    simp (disch := first | assumption | omega) only [↓b_hid, bH_some, ↓hid_W, W_some, I3_a, I3_s, I3_m, I3_n, I3_l, I3_lt, I3_le, I3_e, I3_dv, I3_rm, I3_mx, I3_mn, I3_ab, cI, bI_0, bI_1, rZ_b, up_same, up_row, up_col, xr_some, LQ_r, LQ_l, Int.sub_self, Int.add_zero, Int.zero_add, Int.sub_zero, Int.neg_neg, not_true_eq_false, not_false_eq_true, Int.add_sub_cancel, ↓ite_iH, iH_t, iH_f, bH_iH, ↓bH_bind, xr_iH, ↓xr_bind, W_iH, WI_t, WI_f, gI_47, pI_47, iO_47, gR_47_0, gR_47_1, iO_35, gs, iH_pos, iH_neg, WI_pos, WI_neg]
    exact ⟨0, _, rfl, fun k hk => up_row (by omega) _ _ _, Or.inl ⟨rfl, Or.inl hn0⟩⟩
  have hpos := FS_pos (d := d) (gap := gap) (show 0 < n by omega) h1
  have gs := g_sizeOf (p := p) (l := l) (i := 0) hF h0 h1 hpos
  have g0 := FS_g h0 hpos
  unfold fsG at g0
  have hlen := FS_len (d := d) (gap := gap) h0 h1
  rw [show ((0 : Nat) : Int) = 0 from rfl] at gs
  by_cases h5 : (gl (FS d n gap) 0).2 < 5
  · simp (disch := first | assumption | omega) only [↓b_hid, bH_some, ↓hid_W, W_some, I3_a, I3_s, I3_m, I3_n, I3_l, I3_lt, I3_le, I3_e, I3_dv, I3_rm, I3_mx, I3_mn, I3_ab, cI, bI_0, bI_1, rZ_b, up_same, up_row, up_col, xr_some, LQ_r, LQ_l, Int.sub_self, Int.add_zero, Int.zero_add, Int.sub_zero, Int.neg_neg, not_true_eq_false, not_false_eq_true, Int.add_sub_cancel, ↓ite_iH, iH_t, iH_f, bH_iH, ↓bH_bind, xr_iH, ↓xr_bind, W_iH, WI_t, WI_f, gI_47, pI_47, iO_47, gR_47_0, gR_47_1, iO_35, gs, iH_pos, iH_neg, WI_pos, WI_neg]
    exact ⟨0, _, rfl, fun k hk => up_row (by omega) _ _ _, Or.inl ⟨rfl, Or.inr h5⟩⟩
  have h48 : isC 48 := Or.inl rfl
  have h50 : isC 50 := Or.inr rfl
  simp (disch := first | assumption | omega) only [↓b_hid, bH_some, ↓hid_W, W_some, I3_a, I3_s, I3_m, I3_n, I3_l, I3_lt, I3_le, I3_e, I3_dv, I3_rm, I3_mx, I3_mn, I3_ab, cI, bI_0, bI_1, rZ_b, up_same, up_row, up_col, xr_some, LQ_r, LQ_l, Int.sub_self, Int.add_zero, Int.zero_add, Int.sub_zero, Int.neg_neg, not_true_eq_false, not_false_eq_true, Int.add_sub_cancel, ↓ite_iH, iH_t, iH_f, bH_iH, ↓bH_bind, xr_iH, ↓xr_bind, W_iH, WI_t, WI_f, gI_47, pI_47, iO_47, gR_47_0, gR_47_1, iO_35, gs, f_X0_makeEmpty, gR_47_0, gR_47_1, iO_48, iO_50, pI_48, pI_50, iH_pos, iH_neg, WI_pos, WI_neg]
  generalize hL : FS d n gap = L at *
  generalize hm : (gl L 0).2 = m at *
  generalize hz1 : up (up (up z 47 2 m) 48 1 0) 50 1 0 = z1
  have hz1r : ∀ k, k < 47 ∨ 52 ≤ k → z1 k = z k := fun k hk => by rw [← hz1]; simp (disch := omega) only [up_row]
  have hz12 : z1 47 2 = m := by rw [← hz1]; simp (disch := omega) only [up_row, up_same]
  have hrA := fun side i hi => insA_r (d := d) (gap := gap) h0 hd (by rw [hL, hm]; omega) side i hi
  have hrS := fun (q : Int) q0 q1 i hi => hsum_r (d := d) (gap := gap) (pl := q) h0 hd (by rw [hL, hm]; omega) q0 q1 i hi
  rw [hL] at hrA hrS
  unfold f_X4_gather_43
  refine lp_W (fun t st => ∃ (i : Nat) (z' : Nat → Int → Int), st = (47, 35, I3 (hsum d L 0 i).2, I3 (hsum d L 0 i).1, I3 (hsum d L 1 i).1, I3 i, M p z' l) ∧ i ≤ L.length ∧ t = L.length - i ∧ (∀ k, k < 47 ∨ 52 ≤ k → z' k = z k) ∧ z' 47 2 = m ∧ Trx z' 48 (insA d L 0 i) ∧ Trx z' 50 (insA d L 1 i)) (fun t st hst => ?_) ⟨0, z1, rfl, by omega, rfl, hz1r, hz12, ⟨by rw [← hz1]; simp (disch := omega) only [up_row, up_same]; rfl, fun i i0 i1 => by simp [insA] at i1; omega⟩, ⟨by rw [← hz1]; simp (disch := omega) only [up_same]; rfl, fun i i0 i1 => by simp [insA] at i1; omega⟩⟩
  obtain ⟨i, z', rfl, hi, rfl, hC, e2, hX, hY⟩ := hst
  have hF' : Fs z' n d gap := by
    obtain ⟨x1, x2, x3⟩ := hF
    exact ⟨Tr_congr (hC 38 (by decide)) (hC 39 (by decide)) x1, by rw [hC 35 (by decide)]; exact x2, by rw [hC 36 (by decide), hC 37 (by decide)]; exact x3⟩
  have eN : z' 35 2 = L.length := by have := hF'.2.1; rw [hL] at this; exact this
  have s0 := hrS 0 (by omega) (by omega) i hi
  have s1 := hrS 1 (by omega) (by omega) i hi
  have s01 : (hsum d L 1 i).2 = (hsum d L 0 i).2 := by
    have : ∀ i, (hsum d L 1 i).2 = (hsum d L 0 i).2 := by
      intro i
      induction i with
      | zero => rfl
      | succ i ih => rw [hsum, hsum]; split
                     · simp only; rw [ih]
                     · exact ih
    exact this i
  unfold f_X4_gather_43_b
  by_cases hiN : i < L.length
  · have gsi := g_sizeOf (p := p) (l := l) (i := i) hF' h0 h1 (by rw [hL]; exact hiN)
    rw [hL] at gsi
    have gi := FS_g h0 (d := d) (gap := gap) (i := i) (by rw [hL]; exact hiN)
    rw [hL] at gi
    unfold fsG at gi
    by_cases hsz : (gl L i).2 = m
    · have d0 := g_durAt (p := p) (l := l) (i := i) (k := 0) hF' h0 h1 (by rw [hL]; exact hiN) (by omega) (by rw [hL]; omega)
      have d1 := g_durAt (p := p) (l := l) (i := i) (k := 1) hF' h0 h1 (by rw [hL]; exact hiN) (by omega) (by rw [hL]; omega)
      rw [hL] at d0 d1
      have d0 : f_X3_durationAt 35 (I3 i) (I3 0) (M p z' l) = some (I3 (fre d L i 0), M p z' l) := d0
      have d1 : f_X3_durationAt 35 (I3 i) (I3 1) (M p z' l) = some (I3 (fre d L i 1), M p z' l) := d1
      have hsz0 : (gl L i).2 = (gl L 0).2 := by rw [hsz, hm]
      have a0 := hrA 0 i hi
      have a1 := hrA 1 i hi
      simp (disch := first | assumption | omega) only [↓b_hid, bH_some, ↓hid_W, W_some, I3_a, I3_s, I3_m, I3_n, I3_l, I3_lt, I3_le, I3_e, I3_dv, I3_rm, I3_mx, I3_mn, I3_ab, cI, bI_0, bI_1, rZ_b, up_same, up_row, up_col, xr_some, LQ_r, LQ_l, Int.sub_self, Int.add_zero, Int.zero_add, Int.sub_zero, Int.neg_neg, not_true_eq_false, not_false_eq_true, Int.add_sub_cancel, ↓ite_iH, iH_t, iH_f, bH_iH, ↓bH_bind, xr_iH, ↓xr_bind, W_iH, WI_t, WI_f, gI_35, pI_35, iO_35, gR_35_0, aI_36, sI_36, gR_35_1, aI_37, sI_37, gR_35_3, gI_47, pI_47, iO_47, gR_47_0, gR_47_1, e2, eN, gsi, hsz, d0, d1, iH_pos, iH_neg, WI_pos, WI_neg]
      have hins := w_insertAll (p := p) (l := l) (i := i) (x := insA d L 0 i) (y := insA d L 1 i) hF' h0 h1 hd (by rw [hL]; exact hiN) (by rw [hL, hsz]; exact e2) (by rw [hL]; omega) hX hY a0.1 a1.1 (by rw [hL]; exact a0.2.2 hiN) (by rw [hL]; exact a1.2.2 hiN)
      rw [hL] at hins
      refine W_bH (W_imp hins ?_)
      rintro _ ⟨z2, rfl, b1, b2, b3⟩
      unfold f_X4_gather_97
      simp (disch := first | assumption | omega) only [↓b_hid, bH_some, ↓hid_W, W_some, I3_a, I3_s, I3_m, I3_n, I3_l, I3_lt, I3_le, I3_e, I3_dv, I3_rm, I3_mx, I3_mn, I3_ab, cI, bI_0, bI_1, rZ_b, up_same, up_row, up_col, xr_some, LQ_r, LQ_l, Int.sub_self, Int.add_zero, Int.zero_add, Int.sub_zero, Int.neg_neg, not_true_eq_false, not_false_eq_true, Int.add_sub_cancel, ↓ite_iH, iH_t, iH_f, bH_iH, ↓bH_bind, xr_iH, ↓xr_bind, W_iH, WI_t, WI_f]
      have q0 : hsum d L 0 (i + 1) = ((hsum d L 0 i).1 + fre d L i 0, (hsum d L 0 i).2 + 1) := by rw [hsum, if_pos hsz0]
      have q1 : hsum d L 1 (i + 1) = ((hsum d L 1 i).1 + fre d L i 1, (hsum d L 1 i).2 + 1) := by rw [hsum, if_pos hsz0]
      refine ⟨_, ?_, i + 1, z2, by rw [q0, q1, Int.natCast_add]; rfl, by omega, rfl, fun k hk => (b3 k (by omega)).trans (hC k hk), by rw [b3 47 (by decide)]; exact e2, ?_, ?_⟩
      · omega
      · rw [insA, if_pos hsz0, hm, ← hsz]; exact b1
      · rw [insA, if_pos hsz0, hm, ← hsz]; exact b2
    · have hsz0 : ¬(gl L i).2 = (gl L 0).2 := by rw [hm]; exact hsz
      have q0 : hsum d L 0 (i + 1) = hsum d L 0 i := by rw [hsum, if_neg hsz0]
      have q1 : hsum d L 1 (i + 1) = hsum d L 1 i := by rw [hsum, if_neg hsz0]
      simp (disch := first | assumption | omega) only [↓b_hid, bH_some, ↓hid_W, W_some, I3_a, I3_s, I3_m, I3_n, I3_l, I3_lt, I3_le, I3_e, I3_dv, I3_rm, I3_mx, I3_mn, I3_ab, cI, bI_0, bI_1, rZ_b, up_same, up_row, up_col, xr_some, LQ_r, LQ_l, Int.sub_self, Int.add_zero, Int.zero_add, Int.sub_zero, Int.neg_neg, not_true_eq_false, not_false_eq_true, Int.add_sub_cancel, ↓ite_iH, iH_t, iH_f, bH_iH, ↓bH_bind, xr_iH, ↓xr_bind, W_iH, WI_t, WI_f, gI_35, pI_35, iO_35, gR_35_0, aI_36, sI_36, gR_35_1, aI_37, sI_37, gR_35_3, gI_47, pI_47, iO_47, gR_47_0, gR_47_1, e2, eN, gsi, f_X4_gather_97, iH_pos, iH_neg, WI_pos, WI_neg]
      refine ⟨_, ?_, i + 1, z', by rw [q0, q1, Int.natCast_add]; rfl, by omega, rfl, hC, e2, ?_, ?_⟩
      · omega
      · rw [insA, if_neg hsz0]; exact hX
      · rw [insA, if_neg hsz0]; exact hY
  · have hiN' : i = L.length := by omega
    subst hiN'
    have hc1 := s0.2.2.2.2 hpos
    have a0 := hrA 0 L.length (Nat.le_refl _)
    have a1 := hrA 1 L.length (Nat.le_refl _)
    have m0 : (hsum d L 0 L.length).1 / (hsum d L 0 L.length).2 = hmean d L 0 := rfl
    have m1 : (hsum d L 1 L.length).1 / (hsum d L 0 L.length).2 = hmean d L 1 := by unfold hmean; rw [s01]
    simp (disch := first | assumption | omega) only [↓b_hid, bH_some, ↓hid_W, W_some, I3_a, I3_s, I3_m, I3_n, I3_l, I3_lt, I3_le, I3_e, I3_dv, I3_rm, I3_mx, I3_mn, I3_ab, cI, bI_0, bI_1, rZ_b, up_same, up_row, up_col, xr_some, LQ_r, LQ_l, Int.sub_self, Int.add_zero, Int.zero_add, Int.sub_zero, Int.neg_neg, not_true_eq_false, not_false_eq_true, Int.add_sub_cancel, ↓ite_iH, iH_t, iH_f, bH_iH, ↓bH_bind, xr_iH, ↓xr_bind, W_iH, WI_t, WI_f, gI_35, pI_35, iO_35, gR_35_0, aI_36, sI_36, gR_35_1, aI_37, sI_37, gR_35_3, gI_47, pI_47, iO_47, gR_47_0, gR_47_1, eN, f_X4_gather_103, m0, m1, gR_47_0, gR_47_1, iO_48, iO_50, iH_pos, iH_neg, WI_pos, WI_neg]
    refine W_xr ?_
    simp only [LQ_r]
    refine W_bH (W_imp (w_cut h48 (Tr_congr (by simp (disch := omega) only [up_row]) (by simp (disch := omega) only [up_row]) hX) a0.1 (by omega)) ?_)
    rintro _ ⟨z2, rfl, b1, b2⟩
    simp (disch := first | assumption | omega) only [↓b_hid, bH_some, ↓hid_W, W_some, I3_a, I3_s, I3_m, I3_n, I3_l, I3_lt, I3_le, I3_e, I3_dv, I3_rm, I3_mx, I3_mn, I3_ab, cI, bI_0, bI_1, rZ_b, up_same, up_row, up_col, xr_some, LQ_r, LQ_l, Int.sub_self, Int.add_zero, Int.zero_add, Int.sub_zero, Int.neg_neg, not_true_eq_false, not_false_eq_true, Int.add_sub_cancel, ↓ite_iH, iH_t, iH_f, bH_iH, ↓bH_bind, xr_iH, ↓xr_bind, W_iH, WI_t, WI_f, gI_47, pI_47, iO_47, gR_47_0, gR_47_1, gR_47_1, iO_50]
    refine W_bH (W_imp (w_cut h50 (Tr_congr (by rw [b2 50 (by decide)]; simp (disch := omega) only [up_row]) (by rw [b2 51 (by decide)]; simp (disch := omega) only [up_row]) hY) a1.1 (by omega)) ?_)
    rintro _ ⟨z3, rfl, c1, c2⟩
    simp (disch := first | assumption | omega) only [↓b_hid, bH_some, ↓hid_W, W_some, I3_a, I3_s, I3_m, I3_n, I3_l, I3_lt, I3_le, I3_e, I3_dv, I3_rm, I3_mx, I3_mn, I3_ab, cI, bI_0, bI_1, rZ_b, up_same, up_row, up_col, xr_some, LQ_r, LQ_l, Int.sub_self, Int.add_zero, Int.zero_add, Int.sub_zero, Int.neg_neg, not_true_eq_false, not_false_eq_true, Int.add_sub_cancel, ↓ite_iH, iH_t, iH_f, bH_iH, ↓bH_bind, xr_iH, ↓xr_bind, W_iH, WI_t, WI_f]
    refine ⟨1, z3, rfl, fun k hk => ?_, Or.inr ⟨rfl, by omega, by omega, ?_, ?_, ?_, ?_, c1⟩⟩
    · rw [c2 k (by omega), b2 k (by omega), up_row (by omega), up_row (by omega)]; exact hC k hk
    · rw [c2 47 (by decide), b2 47 (by decide), up_col (by decide), up_col (by decide)]; exact e2
    · rw [c2 47 (by decide), b2 47 (by decide), up_col (by decide), up_same]
    · rw [c2 47 (by decide), b2 47 (by decide), up_same]
    · unfold Cc; rw [c2 48 (by decide)]; exact b1
end
