/-! The class's Clusters. -/
section
variable {p : Nat → Nat} {z l : Nat → Int → Int}
def isC (c : Nat) : Prop := c = 48 ∨ c = 50
theorem isC_h {c : Nat} (h : isC c) : HH[c]? = some (0, 0) ∧ HH[c + 1]? = some (15, 200) ∧ c ≠ 0 ∧ c ≠ 19 ∧ (RFL.lookup c).bind (fun r => r.lookup 0) = some (c + 1) := by
  rcases h with rfl | rfl <;> exact ⟨rfl, rfl, by decide, by decide, rfl⟩
theorem gI_C {c : Nat} (h : isC c) (j : Nat) : gI (M p z l) 0 c (no_index (OfNat.ofNat j)) = some (I3 (z c (OfNat.ofNat j))) := gI_M _ (isC_h h).1
theorem pI_C {c : Nat} (h : isC c) (j : Nat) (v : Int) : pI (M p z l) 0 c (no_index (OfNat.ofNat j)) (I3 v) = some (M p (up z c (OfNat.ofNat j) v) l) := pI_M _ v (isC_h h).1
theorem iO_C {c : Nat} (h : isC c) {α : Type} (e : Option α) : isO (M p z l) 0 c e = e := isO_M (isC_h h).1
theorem gR_C {c : Nat} (h : isC c) : gR (M p z l) 0 c 0 = some (c + 1) := gR_M (isC_h h).1 (by rw [RF_o (isC_h h).2.2.1 (isC_h h).2.2.2.1]; exact (isC_h h).2.2.2.2)
theorem aI_C {c : Nat} (h : isC c) {i : Int} (h0 : 0 ≤ i) (h1 : i < 200) : aI (M p z l) 15 (c + 1) (I3 i) = some (I3 (z (c + 1) i)) := aI_M (isC_h h).2.1 (by decide) h0 h1
theorem sI_C {c : Nat} (h : isC c) {i : Int} (v : Int) (h0 : 0 ≤ i) (h1 : i < 200) : sI (M p z l) 15 (c + 1) (I3 i) (I3 v) = some (M p (up z (c + 1) i v) l) := sI_M (isC_h h).2.1 (by decide) h0 h1 rfl
set_option maxHeartbeats 4000000 in
theorem w_insert {c : Nat} {v : Int} {x : Dn} (hc : isC c) (hx : Trx z c x) (hD : Dr x) (hv : 0 ≤ v) (hv' : v ≤ 60000) (h1 : x.1 < 200) : WP (f_X0_insert c (I3 v) (M p z l)) (fun μ => ∃ z', μ = M p z' l ∧ Trx z' c (ins v x) ∧ (∀ k, k ≠ c → k ≠ c + 1 → z' k = z k) ∧ ∀ j, j ≠ 1 → z' c j = z c j) := by
  obtain ⟨e1, hd⟩ := hx
  obtain ⟨h0, hr⟩ := hD
  have hne : c ≠ c + 1 := by omega
  unfold f_X0_insert
  simp (disch := first | assumption | omega) only [↓b_hid, bH_some, ↓hid_W, W_some, I3_a, I3_s, I3_m, I3_n, I3_l, I3_lt, I3_le, I3_e, I3_dv, I3_rm, I3_mx, I3_mn, I3_ab, cI, bI_0, bI_1, rZ_b, up_same, up_row, up_col, xr_some, LQ_r, LQ_l, Int.sub_self, Int.add_zero, Int.zero_add, Int.sub_zero, Int.neg_neg, not_true_eq_false, not_false_eq_true, Int.add_sub_cancel, ↓ite_iH, iH_t, iH_f, bH_iH, ↓bH_bind, xr_iH, ↓xr_bind, W_iH, WI_t, WI_f, gI_C, e1, iH_pos, iH_neg, WI_pos, WI_neg]
  generalize hn : x.1.toNat = n
  have hn' : x.1 = (n : Int) := by omega
  rw [hn']
  unfold f_X0_insert_16
  refine lp_W (fun m st => ∃ (e : Nat) (z' : Nat → Int → Int), st = (c, I3 v, I3 e, M p z' l) ∧ e ≤ n ∧ m = e + 1 ∧ (∀ k, k ≠ c + 1 → z' k = z k) ∧ pl x.2 v n = pl x.2 v e ∧ (∀ i, 0 ≤ i → i < (e : Int) → z' (c + 1) i = x.2 i) ∧ ∀ i, (e : Int) < i → i ≤ (n : Int) → z' (c + 1) i = x.2 (i - 1)) (fun m st hst => ?_) ⟨n, z, rfl, by omega, rfl, fun _ _ => rfl, rfl, fun i i0 i1 => hd i i0 (by omega), fun i i0 i1 => by omega⟩
  obtain ⟨e, z', rfl, he, rfl, hF, hp, ha, hb⟩ := hst
  have e1' : z' c 1 = n := by rw [hF c hne, e1]; exact hn'
  have fin : pl x.2 v e = e → WP (f_X0_insert_52 c (I3 v) (I3 e) (M p z' l)) (fun μ => ∃ z', μ = M p z' l ∧ Trx z' c (ins v x) ∧ (∀ k, k ≠ c → k ≠ c + 1 → z' k = z k) ∧ ∀ j, j ≠ 1 → z' c j = z c j) := by
    intro hpe
    unfold f_X0_insert_52
    simp (disch := first | assumption | omega) only [↓b_hid, bH_some, ↓hid_W, W_some, I3_a, I3_s, I3_m, I3_n, I3_l, I3_lt, I3_le, I3_e, I3_dv, I3_rm, I3_mx, I3_mn, I3_ab, cI, bI_0, bI_1, rZ_b, up_same, up_row, up_col, xr_some, LQ_r, LQ_l, Int.sub_self, Int.add_zero, Int.zero_add, Int.sub_zero, Int.neg_neg, not_true_eq_false, not_false_eq_true, Int.add_sub_cancel, ↓ite_iH, iH_t, iH_f, bH_iH, ↓bH_bind, xr_iH, ↓xr_bind, W_iH, WI_t, WI_f, gR_C, sI_C, gI_C, pI_C, e1']
    refine ⟨_, rfl, ⟨?_, fun i i0 i1 => ?_⟩, fun k k0 k1 => by rw [up_row k0, up_row k1]; exact hF k k1, fun j hj => by rw [up_col hj, up_row hne, hF c hne]⟩
    · rw [up_same]; unfold ins; simp only; omega
    · unfold ins at i1 ⊢
      simp only at i1 ⊢
      rw [hn, hp, hpe, up_row (by omega)]
      by_cases hi : i < e
      · rw [if_pos hi, up_col (by omega)]; exact ha i i0 hi
      · rw [if_neg hi]
        by_cases hi2 : i = e
        · rw [if_pos hi2, hi2, up_same]
        · rw [if_neg hi2, up_col hi2]; exact hb i (by omega) (by omega)
  unfold f_X0_insert_16_b
  by_cases he0 : e = 0
  · subst he0
    have := fin rfl
    simp (disch := first | assumption | omega) only [↓b_hid, bH_some, ↓hid_W, W_some, I3_a, I3_s, I3_m, I3_n, I3_l, I3_lt, I3_le, I3_e, I3_dv, I3_rm, I3_mx, I3_mn, I3_ab, cI, bI_0, bI_1, rZ_b, up_same, up_row, up_col, xr_some, LQ_r, LQ_l, Int.sub_self, Int.add_zero, Int.zero_add, Int.sub_zero, Int.neg_neg, not_true_eq_false, not_false_eq_true, Int.add_sub_cancel, ↓ite_iH, iH_t, iH_f, bH_iH, ↓bH_bind, xr_iH, ↓xr_bind, W_iH, WI_t, WI_f, iH_pos, iH_neg, WI_pos, WI_neg]
    refine W_xr ?_
    simp only [LQ_r]
    exact this
  · obtain ⟨k, rfl⟩ : ∃ k, e = k + 1 := ⟨e - 1, by omega⟩
    have ek : ((k + 1 : Nat) : Int) - 1 = k := by omega
    have er : z' (c + 1) k = x.2 k := ha k (by omega) (by omega)
    have hrk := hr k (by omega) (by omega)
    by_cases hvk : v < x.2 k
    · have ek2 : ((k + 1 : Nat) : Int) + -1 = k := by omega
      simp (disch := first | assumption | omega) only [↓b_hid, bH_some, ↓hid_W, W_some, I3_a, I3_s, I3_m, I3_n, I3_l, I3_lt, I3_le, I3_e, I3_dv, I3_rm, I3_mx, I3_mn, I3_ab, cI, bI_0, bI_1, rZ_b, up_same, up_row, up_col, xr_some, LQ_r, LQ_l, Int.sub_self, Int.add_zero, Int.zero_add, Int.sub_zero, Int.neg_neg, not_true_eq_false, not_false_eq_true, Int.add_sub_cancel, ↓ite_iH, iH_t, iH_f, bH_iH, ↓bH_bind, xr_iH, ↓xr_bind, W_iH, WI_t, WI_f, gR_C, aI_C, sI_C, ek, er, ek2, iH_pos, iH_neg, WI_pos, WI_neg]
      refine ⟨k + 1, by omega, k, _, rfl, by omega, rfl, fun c' hc' => by rw [up_row hc']; exact hF c' hc', ?_, fun i i0 i1 => ?_, fun i i0 i1 => ?_⟩
      · rw [hp, pl, if_pos hvk]
      · rw [up_col (by omega)]; exact ha i i0 (by omega)
      · by_cases hi : i = ((k + 1 : Nat) : Int)
        · rw [hi, up_same, ek]
        · rw [up_col hi]; exact hb i (by omega) i1
    · have := fin (by rw [pl, if_neg hvk])
      simp (disch := first | assumption | omega) only [↓b_hid, bH_some, ↓hid_W, W_some, I3_a, I3_s, I3_m, I3_n, I3_l, I3_lt, I3_le, I3_e, I3_dv, I3_rm, I3_mx, I3_mn, I3_ab, cI, bI_0, bI_1, rZ_b, up_same, up_row, up_col, xr_some, LQ_r, LQ_l, Int.sub_self, Int.add_zero, Int.zero_add, Int.sub_zero, Int.neg_neg, not_true_eq_false, not_false_eq_true, Int.add_sub_cancel, ↓ite_iH, iH_t, iH_f, bH_iH, ↓bH_bind, xr_iH, ↓xr_bind, W_iH, WI_t, WI_f, gR_C, aI_C, ek, er, iH_pos, iH_neg, WI_pos, WI_neg]
      refine W_xr ?_
      simp only [LQ_r]
      exact this
set_option maxHeartbeats 4000000 in
theorem w_insertAll {n gap : Int} {d : Int → Int} {i : Nat} {x y : Dn} (hF : Fs z n d gap) (h0 : 0 ≤ n) (h1 : n ≤ 200) (hd : ∀ i, 0 ≤ i → i < n → 1 ≤ d i ∧ d i ≤ 60000) (hi : i < (FS d n gap).length) (h2 : z 47 2 = (gl (FS d n gap) i).2) (h5 : 5 ≤ (gl (FS d n gap) i).2) (hx : Trx z 48 x) (hy : Trx z 50 y) (hDx : Dr x) (hDy : Dr y) (hx1 : x.1 ≤ (gl (FS d n gap) i).1) (hy1 : y.1 ≤ (gl (FS d n gap) i).1) : WP (f_X4_insertAll 47 35 (I3 i) (M p z l)) (fun μ => ∃ z', μ = M p z' l ∧ Trx z' 48 (insR (fre d (FS d n gap) i) 0 ((gl (FS d n gap) i).2 - 2).toNat x) ∧ Trx z' 50 (insR (fre d (FS d n gap) i) 1 ((gl (FS d n gap) i).2 - 2).toNat y) ∧ ∀ k, k < 48 ∨ 52 ≤ k → z' k = z k) := by
  obtain ⟨g1, g2, g3, g4, g5⟩ := FS_g h0 hi
  generalize hm : (gl (FS d n gap) i).2 = m at *
  unfold f_X4_insertAll f_X4_insertAll_2
  refine lp_W (fun t st => ∃ (k : Nat) (z' : Nat → Int → Int), st = (47, 35, I3 i, I3 (2 + k), M p z' l) ∧ 2 + (k : Int) ≤ m ∧ t = (m - 2).toNat - k ∧ Trx z' 48 (insR (fre d (FS d n gap) i) 0 k x) ∧ Trx z' 50 (insR (fre d (FS d n gap) i) 1 k y) ∧ ∀ c, c < 48 ∨ 52 ≤ c → z' c = z c) (fun t st hst => ?_) ⟨0, z, rfl, by omega, rfl, hx, hy, fun _ _ => rfl⟩
  obtain ⟨k, z', rfl, hk, rfl, hX, hY, hC⟩ := hst
  have e2 : z' 47 2 = m := by rw [hC 47 (by decide)]; exact h2
  have hF' : Fs z' n d gap := by
    obtain ⟨x1, x2, x3⟩ := hF
    exact ⟨Tr_congr (hC 38 (by decide)) (hC 39 (by decide)) x1, by rw [hC 35 (by decide)]; exact x2, by rw [hC 36 (by decide), hC 37 (by decide)]; exact x3⟩
  unfold f_X4_insertAll_2_b
  by_cases hkm : 2 + (k : Int) < m
  · have hda := g_durAt (p := p) (l := l) (k := 2 + k) hF' h0 h1 hi (by omega) (by rw [hm]; exact hkm)
    have hfr : d ((gl (FS d n gap) i).1 + (2 + k)) = fre d (FS d n gap) i (2 + k) := rfl
    have hfv := fre_r (gap := gap) h0 hd hi (k := 2 + k) (by omega) (by rw [hm]; exact hkm)
    rw [hfr] at hda
    have lx := insR_1 (fre d (FS d n gap) i) 0 x k
    have ly := insR_1 (fre d (FS d n gap) i) 1 y k
    have hfd : ∀ j, 0 ≤ j → j < 2 + (k : Int) → 0 ≤ fre d (FS d n gap) i j ∧ fre d (FS d n gap) i j ≤ 60000 := fun j j0 j1 => by
      have := fre_r (gap := gap) h0 hd hi (k := j) j0 (by rw [hm]; omega)
      omega
    have dx := Dr_insR (side := 0) hDx k hfd
    have dy := Dr_insR (side := 1) hDy k hfd
    by_cases hpar : (2 + (k : Int)) % 2 = 0
    · simp (disch := first | assumption | omega) only [↓b_hid, bH_some, ↓hid_W, W_some, I3_a, I3_s, I3_m, I3_n, I3_l, I3_lt, I3_le, I3_e, I3_dv, I3_rm, I3_mx, I3_mn, I3_ab, cI, bI_0, bI_1, rZ_b, up_same, up_row, up_col, xr_some, LQ_r, LQ_l, Int.sub_self, Int.add_zero, Int.zero_add, Int.sub_zero, Int.neg_neg, not_true_eq_false, not_false_eq_true, Int.add_sub_cancel, ↓ite_iH, iH_t, iH_f, bH_iH, ↓bH_bind, xr_iH, ↓xr_bind, W_iH, WI_t, WI_f, gI_47, pI_47, iO_47, gR_47_0, gR_47_1, e2, gR_47_0, f_X4_insertAll_27, iO_35, hda, iH_pos, iH_neg, WI_pos, WI_neg]
      refine W_bH (W_imp (w_insert (Or.inl rfl) hX dx (by omega) (by omega) (by omega)) ?_)
      rintro _ ⟨z2, rfl, b1, b2, b3⟩
      simp (disch := first | assumption | omega) only [↓b_hid, bH_some, ↓hid_W, W_some, I3_a, I3_s, I3_m, I3_n, I3_l, I3_lt, I3_le, I3_e, I3_dv, I3_rm, I3_mx, I3_mn, I3_ab, cI, bI_0, bI_1, rZ_b, up_same, up_row, up_col, xr_some, LQ_r, LQ_l, Int.sub_self, Int.add_zero, Int.zero_add, Int.sub_zero, Int.neg_neg, not_true_eq_false, not_false_eq_true, Int.add_sub_cancel, ↓ite_iH, iH_t, iH_f, bH_iH, ↓bH_bind, xr_iH, ↓xr_bind, W_iH, WI_t, WI_f]
      refine ⟨_, ?_, k + 1, z2, by rw [Int.natCast_add, ← Int.add_assoc]; rfl, by omega, rfl, ?_, ?_, fun c hc => (b2 c (by omega) (by omega)).trans (hC c hc)⟩
      · omega
      · rw [insR, if_pos hpar]; exact b1
      · rw [insR, if_neg (by omega)]; exact Tr_congr (b2 50 (by decide) (by decide)) (b2 51 (by decide) (by decide)) hY
    · simp (disch := first | assumption | omega) only [↓b_hid, bH_some, ↓hid_W, W_some, I3_a, I3_s, I3_m, I3_n, I3_l, I3_lt, I3_le, I3_e, I3_dv, I3_rm, I3_mx, I3_mn, I3_ab, cI, bI_0, bI_1, rZ_b, up_same, up_row, up_col, xr_some, LQ_r, LQ_l, Int.sub_self, Int.add_zero, Int.zero_add, Int.sub_zero, Int.neg_neg, not_true_eq_false, not_false_eq_true, Int.add_sub_cancel, ↓ite_iH, iH_t, iH_f, bH_iH, ↓bH_bind, xr_iH, ↓xr_bind, W_iH, WI_t, WI_f, gI_47, pI_47, iO_47, gR_47_0, gR_47_1, e2, gR_47_1, f_X4_insertAll_27, iO_35, hda, iH_pos, iH_neg, WI_pos, WI_neg]
      refine W_bH (W_imp (w_insert (Or.inr rfl) hY dy (by omega) (by omega) (by omega)) ?_)
      rintro _ ⟨z2, rfl, b1, b2, b3⟩
      simp (disch := first | assumption | omega) only [↓b_hid, bH_some, ↓hid_W, W_some, I3_a, I3_s, I3_m, I3_n, I3_l, I3_lt, I3_le, I3_e, I3_dv, I3_rm, I3_mx, I3_mn, I3_ab, cI, bI_0, bI_1, rZ_b, up_same, up_row, up_col, xr_some, LQ_r, LQ_l, Int.sub_self, Int.add_zero, Int.zero_add, Int.sub_zero, Int.neg_neg, not_true_eq_false, not_false_eq_true, Int.add_sub_cancel, ↓ite_iH, iH_t, iH_f, bH_iH, ↓bH_bind, xr_iH, ↓xr_bind, W_iH, WI_t, WI_f]
      refine ⟨_, ?_, k + 1, z2, by rw [Int.natCast_add, ← Int.add_assoc]; rfl, by omega, rfl, ?_, ?_, fun c hc => (b2 c (by omega) (by omega)).trans (hC c hc)⟩
      · omega
      · rw [insR, if_neg hpar]; exact Tr_congr (b2 48 (by decide) (by decide)) (b2 49 (by decide) (by decide)) hX
      · rw [insR, if_pos (by omega)]; exact b1
  · have hke : (m - 2).toNat = k := by omega
    rw [hke]
    simp (disch := first | assumption | omega) only [↓b_hid, bH_some, ↓hid_W, W_some, I3_a, I3_s, I3_m, I3_n, I3_l, I3_lt, I3_le, I3_e, I3_dv, I3_rm, I3_mx, I3_mn, I3_ab, cI, bI_0, bI_1, rZ_b, up_same, up_row, up_col, xr_some, LQ_r, LQ_l, Int.sub_self, Int.add_zero, Int.zero_add, Int.sub_zero, Int.neg_neg, not_true_eq_false, not_false_eq_true, Int.add_sub_cancel, ↓ite_iH, iH_t, iH_f, bH_iH, ↓bH_bind, xr_iH, ↓xr_bind, W_iH, WI_t, WI_f, gI_47, pI_47, iO_47, gR_47_0, gR_47_1, e2, f_X4_insertAll_42, iH_pos, iH_neg, WI_pos, WI_neg]
    exact ⟨z', rfl, hX, hY, hC⟩
theorem g_mean {c a b : Nat} {x : Dn} (hc : isC c) (hx : Trx z c x) (hD : Dr x) (hab : a < b) (hb : (b : Int) ≤ x.1) (h2 : x.1 ≤ 200) : f_X0_mean c (I3 a) (I3 b) (M p z l) = some (I3 ((sm x.2 b - sm x.2 a) / ((b : Int) - a)), M p z l) := by
  have hf : ∀ i : Nat, i < b → 0 ≤ x.2 i ∧ x.2 i ≤ 60000 := fun i hi => hD.2 i (by omega) (by omega)
  have hs := sm_r (f := x.2) (a := a) b (by omega) hf
  have e0 : (if (a : Int) < 0 then (0 : Int) else a) = a := if_neg (by omega)
  apply W_eq
  unfold f_X0_mean
  simp (disch := first | assumption | omega) only [↓b_hid, bH_some, ↓hid_W, W_some, I3_a, I3_s, I3_m, I3_n, I3_l, I3_lt, I3_le, I3_e, I3_dv, I3_rm, I3_mx, I3_mn, I3_ab, cI, bI_0, bI_1, rZ_b, up_same, up_row, up_col, xr_some, LQ_r, LQ_l, Int.sub_self, Int.add_zero, Int.zero_add, Int.sub_zero, Int.neg_neg, not_true_eq_false, not_false_eq_true, Int.add_sub_cancel, ↓ite_iH, iH_t, iH_f, bH_iH, ↓bH_bind, xr_iH, ↓xr_bind, W_iH, WI_t, WI_f, e0]
  unfold f_X0_mean_9
  refine lp_W (fun m st => ∃ i : Nat, st = (c, I3 a, I3 b, I3 (sm x.2 i - sm x.2 a), I3 i, M p z l) ∧ a ≤ i ∧ i ≤ b ∧ m = b - i) (fun m st hst => ?_) ⟨a, by rw [Int.sub_self], by omega, by omega, rfl⟩
  obtain ⟨i, rfl, hi, hi2, rfl⟩ := hst
  have hsi := sm_r (f := x.2) (a := a) i hi (fun k hk => hf k (by omega))
  unfold f_X0_mean_9_b
  by_cases hib : i < b
  · have er : z (c + 1) i = x.2 i := hx.2 i (by omega) (by omega)
    have es : sm x.2 i - sm x.2 a + x.2 i = sm x.2 (i + 1) - sm x.2 a := by rw [sm]; omega
    simp (disch := first | assumption | omega) only [↓b_hid, bH_some, ↓hid_W, W_some, I3_a, I3_s, I3_m, I3_n, I3_l, I3_lt, I3_le, I3_e, I3_dv, I3_rm, I3_mx, I3_mn, I3_ab, cI, bI_0, bI_1, rZ_b, up_same, up_row, up_col, xr_some, LQ_r, LQ_l, Int.sub_self, Int.add_zero, Int.zero_add, Int.sub_zero, Int.neg_neg, not_true_eq_false, not_false_eq_true, Int.add_sub_cancel, ↓ite_iH, iH_t, iH_f, bH_iH, ↓bH_bind, xr_iH, ↓xr_bind, W_iH, WI_t, WI_f, gR_C, aI_C, er, es, iH_pos, iH_neg, WI_pos, WI_neg]
    refine ⟨_, ?_, i + 1, by rw [Int.natCast_add]; rfl, by omega, by omega, rfl⟩
    omega
  · have : i = b := by omega
    subst this
    simp (disch := first | assumption | omega) only [↓b_hid, bH_some, ↓hid_W, W_some, I3_a, I3_s, I3_m, I3_n, I3_l, I3_lt, I3_le, I3_e, I3_dv, I3_rm, I3_mx, I3_mn, I3_ab, cI, bI_0, bI_1, rZ_b, up_same, up_row, up_col, xr_some, LQ_r, LQ_l, Int.sub_self, Int.add_zero, Int.zero_add, Int.sub_zero, Int.neg_neg, not_true_eq_false, not_false_eq_true, Int.add_sub_cancel, ↓ite_iH, iH_t, iH_f, bH_iH, ↓bH_bind, xr_iH, ↓xr_bind, W_iH, WI_t, WI_f, f_X0_mean_39, iH_pos, iH_neg, WI_pos, WI_neg]
/-- the clusters that are noted -/
def Cc (z : Nat → Int → Int) (c : Nat) (L : List Int) : Prop := z c 2 = L.length ∧ (1 ≤ L.length → z c 3 = lf L 0) ∧ (2 ≤ L.length → z c 4 = lf L 1)
theorem w_noteC {c : Nat} {v : Int} {L : List Int} (hc : isC c) (h : Cc z c L) (hL : L.length < 1000) : WP (f_X0_noteCluster c (I3 v) (M p z l)) (fun μ => ∃ z', μ = M p z' l ∧ Cc z' c (L ++ [v]) ∧ (∀ k, k ≠ c → z' k = z k) ∧ z' c 1 = z c 1) := by
  obtain ⟨a, b, d⟩ := h
  have hl : (L ++ [v]).length = L.length + 1 := by simp
  unfold f_X0_noteCluster
  by_cases h0 : L.length = 0
  · have a0 : z c 2 = 0 := by omega
    have : L = [] := List.eq_nil_of_length_eq_zero h0
    subst this
    simp (disch := first | assumption | omega) only [↓b_hid, bH_some, ↓hid_W, W_some, I3_a, I3_s, I3_m, I3_n, I3_l, I3_lt, I3_le, I3_e, I3_dv, I3_rm, I3_mx, I3_mn, I3_ab, cI, bI_0, bI_1, rZ_b, up_same, up_row, up_col, xr_some, LQ_r, LQ_l, Int.sub_self, Int.add_zero, Int.zero_add, Int.sub_zero, Int.neg_neg, not_true_eq_false, not_false_eq_true, Int.add_sub_cancel, ↓ite_iH, iH_t, iH_f, bH_iH, ↓bH_bind, xr_iH, ↓xr_bind, W_iH, WI_t, WI_f, gI_C, pI_C, a0, f_X0_noteCluster_28, iH_pos, iH_neg, WI_pos, WI_neg]
    refine ⟨_, rfl, ⟨?_, fun _ => ?_, fun h => ?_⟩, fun k hk => by rw [up_row hk, up_row hk], by simp (disch := omega) only [up_col]⟩
    · rw [up_same]; rfl
    · rw [up_col (by decide), up_same]; rfl
    · simp at h
  · by_cases h1 : L.length = 1
    · have a0 : z c 2 = 1 := by omega
      simp (disch := first | assumption | omega) only [↓b_hid, bH_some, ↓hid_W, W_some, I3_a, I3_s, I3_m, I3_n, I3_l, I3_lt, I3_le, I3_e, I3_dv, I3_rm, I3_mx, I3_mn, I3_ab, cI, bI_0, bI_1, rZ_b, up_same, up_row, up_col, xr_some, LQ_r, LQ_l, Int.sub_self, Int.add_zero, Int.zero_add, Int.sub_zero, Int.neg_neg, not_true_eq_false, not_false_eq_true, Int.add_sub_cancel, ↓ite_iH, iH_t, iH_f, bH_iH, ↓bH_bind, xr_iH, ↓xr_bind, W_iH, WI_t, WI_f, gI_C, pI_C, a0, f_X0_noteCluster_28, iH_pos, iH_neg, WI_pos, WI_neg]
      refine ⟨_, rfl, ⟨?_, fun _ => ?_, fun h => ?_⟩, fun k hk => by rw [up_row hk, up_row hk], by simp (disch := omega) only [up_col]⟩
      · rw [up_same]; omega
      · rw [up_col (by decide), up_col (by decide), b (by omega), lf_app (by omega), if_pos (by omega)]
      · rw [up_col (by decide), up_same, lf_app (by omega), if_neg (by omega), if_pos (by omega)]
    · have a2 : 2 ≤ z c 2 := by omega
      simp (disch := first | assumption | omega) only [↓b_hid, bH_some, ↓hid_W, W_some, I3_a, I3_s, I3_m, I3_n, I3_l, I3_lt, I3_le, I3_e, I3_dv, I3_rm, I3_mx, I3_mn, I3_ab, cI, bI_0, bI_1, rZ_b, up_same, up_row, up_col, xr_some, LQ_r, LQ_l, Int.sub_self, Int.add_zero, Int.zero_add, Int.sub_zero, Int.neg_neg, not_true_eq_false, not_false_eq_true, Int.add_sub_cancel, ↓ite_iH, iH_t, iH_f, bH_iH, ↓bH_bind, xr_iH, ↓xr_bind, W_iH, WI_t, WI_f, gI_C, pI_C, f_X0_noteCluster_28, iH_pos, iH_neg, WI_pos, WI_neg]
      refine ⟨_, rfl, ⟨?_, fun _ => ?_, fun h => ?_⟩, fun k hk => by rw [up_row hk], by simp (disch := omega) only [up_col]⟩
      · rw [up_same]; omega
      · rw [up_col (by decide), b (by omega), lf_app (by omega), if_pos (by omega)]
      · rw [up_col (by decide), d (by omega), lf_app (by omega), if_pos (by omega)]
set_option maxHeartbeats 4000000 in
theorem w_cut {c : Nat} {x : Dn} (hc : isC c) (hx : Trx z c x) (hD : Dr x) (h2 : x.1 ≤ 200) : WP (f_X0_cut c (M p z l)) (fun μ => ∃ z', μ = M p z' l ∧ Cc z' c (cmeans x) ∧ ∀ k, k ≠ c → z' k = z k) := by
  have hne : c ≠ c + 1 := by omega
  have hx0 := hD.1
  unfold f_X0_cut
  simp (disch := first | assumption | omega) only [↓b_hid, bH_some, ↓hid_W, W_some, I3_a, I3_s, I3_m, I3_n, I3_l, I3_lt, I3_le, I3_e, I3_dv, I3_rm, I3_mx, I3_mn, I3_ab, cI, bI_0, bI_1, rZ_b, up_same, up_row, up_col, xr_some, LQ_r, LQ_l, Int.sub_self, Int.add_zero, Int.zero_add, Int.sub_zero, Int.neg_neg, not_true_eq_false, not_false_eq_true, Int.add_sub_cancel, ↓ite_iH, iH_t, iH_f, bH_iH, ↓bH_bind, xr_iH, ↓xr_bind, W_iH, WI_t, WI_f, pI_C]
  generalize hn : x.1.toNat = n
  have hn' : x.1 = (n : Int) := by omega
  have hcm : cmeans x = (ckS x.2 n n).2 := by unfold cmeans; rw [hn, hn']
  rw [hcm]
  unfold f_X0_cut_9
  refine lp_W (fun m st => ∃ (k : Nat) (z' : Nat → Int → Int), st = (c, I3 (ckS x.2 n k).1, I3 (k + 1), M p z' l) ∧ k ≤ n ∧ m = n - k ∧ (∀ c', c' ≠ c → z' c' = z c') ∧ z' c 1 = n ∧ Cc z' c (ckS x.2 n k).2) (fun m st hst => ?_) ⟨0, _, rfl, by omega, rfl, fun c' hc' => up_row hc' _ _ _, by rw [up_col (by decide), hx.1]; exact hn', ⟨up_same _ _ _ _, fun h => by simp [ckS] at h, fun h => by simp [ckS] at h⟩⟩
  obtain ⟨k, z', rfl, hk, rfl, hF, e1, hC⟩ := hst
  have hr := ckS_r x.2 n k
  have hX : Trx z' c x := ⟨by rw [e1]; exact hn'.symm, by rw [hF (c + 1) (by omega)]; exact hx.2⟩
  have hX1 : Trx z' c ((n : Int), x.2) := ⟨e1, fun i i0 i1 => hX.2 i i0 (by rw [hn']; exact i1)⟩
  unfold f_X0_cut_9_b
  by_cases hkn : k < n
  · have hgo : (k : Int) + 1 = n ∨ 3 * x.2 k < 2 * x.2 (k + 1) → WP (f_X0_cut_53 c (I3 (ckS x.2 n k).1) (I3 (k + 1)) (M p z' l)) (LQ (fun μ => ∃ z', μ = M p z' l ∧ Cc z' c (ckS x.2 n n).2 ∧ ∀ k, k ≠ c → z' k = z k) (fun m st => ∃ (k : Nat) (z' : Nat → Int → Int), st = (c, I3 (ckS x.2 n k).1, I3 (k + 1), M p z' l) ∧ k ≤ n ∧ m = n - k ∧ (∀ c', c' ≠ c → z' c' = z c') ∧ z' c 1 = n ∧ Cc z' c (ckS x.2 n k).2) (n - k)) := by
      intro hcut
      have hs : ckS x.2 n (k + 1) = (k + 1, (ckS x.2 n k).2 ++ [(sm x.2 (k + 1) - sm x.2 (ckS x.2 n k).1) / ((k : Int) + 1 - (ckS x.2 n k).1)]) := by rw [ckS, if_pos hcut]
      have gm := g_mean (p := p) (z := z') (l := l) (c := c) (a := (ckS x.2 n k).1) (b := k + 1) hc hX hD (by omega) (by omega) h2
      rw [Int.natCast_add] at gm
      have gm : f_X0_mean c (I3 (ckS x.2 n k).1) (I3 ((k : Int) + 1)) (M p z' l) = some (I3 ((sm x.2 (k + 1) - sm x.2 (ckS x.2 n k).1) / ((k : Int) + 1 - (ckS x.2 n k).1)), M p z' l) := gm
      unfold f_X0_cut_53
      simp (disch := first | assumption | omega) only [↓b_hid, bH_some, ↓hid_W, W_some, I3_a, I3_s, I3_m, I3_n, I3_l, I3_lt, I3_le, I3_e, I3_dv, I3_rm, I3_mx, I3_mn, I3_ab, cI, bI_0, bI_1, rZ_b, up_same, up_row, up_col, xr_some, LQ_r, LQ_l, Int.sub_self, Int.add_zero, Int.zero_add, Int.sub_zero, Int.neg_neg, not_true_eq_false, not_false_eq_true, Int.add_sub_cancel, ↓ite_iH, iH_t, iH_f, bH_iH, ↓bH_bind, xr_iH, ↓xr_bind, W_iH, WI_t, WI_f, iO_C, gm]
      refine W_bH (W_imp (w_noteC hc hC (by omega)) ?_)
      rintro _ ⟨z2, rfl, b1, b2, b3⟩
      unfold f_X0_cut_65
      simp (disch := first | assumption | omega) only [↓b_hid, bH_some, ↓hid_W, W_some, I3_a, I3_s, I3_m, I3_n, I3_l, I3_lt, I3_le, I3_e, I3_dv, I3_rm, I3_mx, I3_mn, I3_ab, cI, bI_0, bI_1, rZ_b, up_same, up_row, up_col, xr_some, LQ_r, LQ_l, Int.sub_self, Int.add_zero, Int.zero_add, Int.sub_zero, Int.neg_neg, not_true_eq_false, not_false_eq_true, Int.add_sub_cancel, ↓ite_iH, iH_t, iH_f, bH_iH, ↓bH_bind, xr_iH, ↓xr_bind, W_iH, WI_t, WI_f]
      refine ⟨_, ?_, k + 1, z2, by rw [hs, Int.natCast_add]; rfl, by omega, rfl, fun c' hc' => (b2 c' hc').trans (hF c' hc'), b3.trans e1, ?_⟩
      · omega
      · rw [hs]; exact b1
    by_cases hlast : (k : Int) + 1 = n
    · have := hgo (Or.inl hlast)
      simp (disch := first | assumption | omega) only [↓b_hid, bH_some, ↓hid_W, W_some, I3_a, I3_s, I3_m, I3_n, I3_l, I3_lt, I3_le, I3_e, I3_dv, I3_rm, I3_mx, I3_mn, I3_ab, cI, bI_0, bI_1, rZ_b, up_same, up_row, up_col, xr_some, LQ_r, LQ_l, Int.sub_self, Int.add_zero, Int.zero_add, Int.sub_zero, Int.neg_neg, not_true_eq_false, not_false_eq_true, Int.add_sub_cancel, ↓ite_iH, iH_t, iH_f, bH_iH, ↓bH_bind, xr_iH, ↓xr_bind, W_iH, WI_t, WI_f, gI_C, e1, iH_pos, iH_neg, WI_pos, WI_neg]
      exact this
    · have er1 : z' (c + 1) ((k : Int) + 1) = x.2 (k + 1) := hX.2 _ (by omega) (by omega)
      have er0 : z' (c + 1) k = x.2 k := hX.2 _ (by omega) (by omega)
      have r1 := hD.2 ((k : Int) + 1) (by omega) (by omega)
      have r0 := hD.2 k (by omega) (by omega)
      have ek : (k : Int) + 1 - 1 = k := by omega
      by_cases hcut : 3 * x.2 k < 2 * x.2 (k + 1)
      · have := hgo (Or.inr hcut)
        simp (disch := first | assumption | omega) only [↓b_hid, bH_some, ↓hid_W, W_some, I3_a, I3_s, I3_m, I3_n, I3_l, I3_lt, I3_le, I3_e, I3_dv, I3_rm, I3_mx, I3_mn, I3_ab, cI, bI_0, bI_1, rZ_b, up_same, up_row, up_col, xr_some, LQ_r, LQ_l, Int.sub_self, Int.add_zero, Int.zero_add, Int.sub_zero, Int.neg_neg, not_true_eq_false, not_false_eq_true, Int.add_sub_cancel, ↓ite_iH, iH_t, iH_f, bH_iH, ↓bH_bind, xr_iH, ↓xr_bind, W_iH, WI_t, WI_f, gI_C, e1, gR_C, aI_C, er1, ek, er0, iH_pos, iH_neg, WI_pos, WI_neg]
        exact this
      · simp (disch := first | assumption | omega) only [↓b_hid, bH_some, ↓hid_W, W_some, I3_a, I3_s, I3_m, I3_n, I3_l, I3_lt, I3_le, I3_e, I3_dv, I3_rm, I3_mx, I3_mn, I3_ab, cI, bI_0, bI_1, rZ_b, up_same, up_row, up_col, xr_some, LQ_r, LQ_l, Int.sub_self, Int.add_zero, Int.zero_add, Int.sub_zero, Int.neg_neg, not_true_eq_false, not_false_eq_true, Int.add_sub_cancel, ↓ite_iH, iH_t, iH_f, bH_iH, ↓bH_bind, xr_iH, ↓xr_bind, W_iH, WI_t, WI_f, gI_C, e1, gR_C, aI_C, er1, ek, er0, f_X0_cut_65, iH_pos, iH_neg, WI_pos, WI_neg]
        have hs : ckS x.2 n (k + 1) = ckS x.2 n k := by rw [ckS, if_neg (by omega)]
        refine ⟨_, ?_, k + 1, z', by rw [hs, Int.natCast_add]; rfl, by omega, rfl, hF, e1, ?_⟩
        · omega
        · rw [hs]; exact hC
  · have : k = n := by omega
    subst this
    simp (disch := first | assumption | omega) only [↓b_hid, bH_some, ↓hid_W, W_some, I3_a, I3_s, I3_m, I3_n, I3_l, I3_lt, I3_le, I3_e, I3_dv, I3_rm, I3_mx, I3_mn, I3_ab, cI, bI_0, bI_1, rZ_b, up_same, up_row, up_col, xr_some, LQ_r, LQ_l, Int.sub_self, Int.add_zero, Int.zero_add, Int.sub_zero, Int.neg_neg, not_true_eq_false, not_false_eq_true, Int.add_sub_cancel, ↓ite_iH, iH_t, iH_f, bH_iH, ↓bH_bind, xr_iH, ↓xr_bind, W_iH, WI_t, WI_f, gI_C, e1, f_X0_cut_71, iH_pos, iH_neg, WI_pos, WI_neg]
    exact ⟨z', rfl, hC, hF⟩
end
