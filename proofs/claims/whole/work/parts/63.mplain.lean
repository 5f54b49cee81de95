/-! The model: its train that is looked at, its frames, codes by distance and width. -/
section
variable {p : Nat → Nat} {z l : Nat → Int → Int}
theorem I6_i {a : Int} (h0 : -9223372036854775808 ≤ a) (h1 : a < 9223372036854775808) : (I6 a).toInt = a := Int64.toInt_ofInt_of_le h0 h1
theorem I6_m (a b : Int) : I6 a * I6 b = I6 (a * b) := (Int64.ofInt_mul a b).symm
theorem I6_l (n : Nat) : (no_index (OfNat.ofNat n) : Int64) = I6 (OfNat.ofNat n) := by
  have h : Int64.ofNat n = Int64.ofInt n := Int64.ofInt_eq_ofNat.symm
  exact h
theorem t64 {a : Int} (h0 : -2147483648 ≤ a) (h1 : a < 2147483648) : (I3 a).toInt64 = I6 a := by
  apply Int64.toInt_inj.mp
  rw [Int32.toInt_toInt64, I3_i h0 h1, I6_i (by omega) (by omega)]
theorem lg_gt {a b : Int} (h0 : -9223372036854775808 ≤ a) (h1 : a < 9223372036854775808) (h2 : -9223372036854775808 ≤ b) (h3 : b < 9223372036854775808) : (I3 0 < lg_cmp (I6 a) (I6 b)) = (b < a) := by
  have e : (I6 a > I6 b) = (b < a) := by
    show (I6 b < I6 a) = _
    rw [Int64.lt_iff_toInt_lt, I6_i h0 h1, I6_i h2 h3]
  unfold lg_cmp
  by_cases h : b < a
  · rw [if_pos (by rw [e]; exact h)]; simp only [h, eq_iff_iff, iff_true]; decide
  · rw [if_neg (by rw [e]; exact h)]
    split
    · simp only [h, eq_iff_iff, iff_false]; decide
    · simp only [h, eq_iff_iff, iff_false]; decide
theorem m_matches {x len tol : Int} (ht : z 189 22 = tol) (h0 : 0 ≤ x) (h1 : x ≤ 20000000) (h2 : 0 ≤ len) (h3 : len ≤ 20000000) (h4 : 0 ≤ tol) (h5 : tol ≤ 40) : f_X12_matches 189 (I3 x) (I3 len) (M p z l) = some (I3 (bI (mt x len tol)), M p z l) := by
  have hm0 : 0 ≤ len * tol := Int.mul_nonneg h2 h4
  have hm1 : len * tol ≤ 20000000 * 40 := Int.mul_le_mul h3 h5 h4 (by omega)
  apply W_eq; unfold f_X12_matches; simp (disch := first | assumption | omega) only [↓b_hid, bH_some, ↓hid_W, ↓W_ite, WI_t, WI_f, W_some, I3_a, I3_s, I3_m, I3_n, I3_l, I3_lt, I3_le, I3_e, I3_dv, I3_rm, I3_mx, I3_mn, I3_ab, cI, bI_0, bI_1, rZ_b, up_same, up_row, up_col, xr_some, LQ_r, LQ_l, Int.sub_self, Int.add_zero, Int.zero_add, Int.sub_zero, Int.neg_neg, not_true_eq_false, not_false_eq_true, Int.add_sub_cancel]
  refine WI_i (fun h => ?_) (fun h => ?_)
  · unfold f_X12_matches_14; simp (disch := first | assumption | omega) only [↓b_hid, bH_some, ↓hid_W, ↓W_ite, WI_t, WI_f, W_some, I3_a, I3_s, I3_m, I3_n, I3_l, I3_lt, I3_le, I3_e, I3_dv, I3_rm, I3_mx, I3_mn, I3_ab, cI, bI_0, bI_1, rZ_b, up_same, up_row, up_col, xr_some, LQ_r, LQ_l, Int.sub_self, Int.add_zero, Int.zero_add, Int.sub_zero, Int.neg_neg, not_true_eq_false, not_false_eq_true, Int.add_sub_cancel, gI_189, pI_189, iO_189, gR_189_0, aI_190, sI_190, gR_189_1, aI_191, sI_191, gR_189_3, aI_192, gR_189_10, aI_193, sI_193, gR_189_11, aI_194, sI_194, gR_189_13, aI_195, sI_195, gR_189_15, aI_196, sI_196, gR_189_17, aI_197, sI_197, gR_189_18, aI_198, sI_198, gR_189_19, aI_199, sI_199, gR_189_20, aI_200, sI_200, gR_189_23, aI_201, gR_189_24, aI_202, sI_202, gR_189_25, aI_203, sI_203, gR_189_29, aI_204, sI_204, gR_189_32, aI_205, sI_205, gR_189_35, aI_206, sI_206, pZ_189, gL_189, pL_189, ht, I6_l, t64, I6_m, lg_gt]
    refine WI_i (fun h' => ?_) (fun h' => ?_)
    · simp (disch := first | assumption | omega) only [↓b_hid, bH_some, ↓hid_W, ↓W_ite, WI_t, WI_f, W_some, I3_a, I3_s, I3_m, I3_n, I3_l, I3_lt, I3_le, I3_e, I3_dv, I3_rm, I3_mx, I3_mn, I3_ab, cI, bI_0, bI_1, rZ_b, up_same, up_row, up_col, xr_some, LQ_r, LQ_l, Int.sub_self, Int.add_zero, Int.zero_add, Int.sub_zero, Int.neg_neg, not_true_eq_false, not_false_eq_true, Int.add_sub_cancel]; rw [bI_f]; unfold mt; rw [if_neg (by omega)]; omega
    · simp (disch := first | assumption | omega) only [↓b_hid, bH_some, ↓hid_W, ↓W_ite, WI_t, WI_f, W_some, I3_a, I3_s, I3_m, I3_n, I3_l, I3_lt, I3_le, I3_e, I3_dv, I3_rm, I3_mx, I3_mn, I3_ab, cI, bI_0, bI_1, rZ_b, up_same, up_row, up_col, xr_some, LQ_r, LQ_l, Int.sub_self, Int.add_zero, Int.zero_add, Int.sub_zero, Int.neg_neg, not_true_eq_false, not_false_eq_true, Int.add_sub_cancel]; rw [bI_t]; unfold mt; rw [if_neg (by omega)]; omega
  · unfold f_X12_matches_14; simp (disch := first | assumption | omega) only [↓b_hid, bH_some, ↓hid_W, ↓W_ite, WI_t, WI_f, W_some, I3_a, I3_s, I3_m, I3_n, I3_l, I3_lt, I3_le, I3_e, I3_dv, I3_rm, I3_mx, I3_mn, I3_ab, cI, bI_0, bI_1, rZ_b, up_same, up_row, up_col, xr_some, LQ_r, LQ_l, Int.sub_self, Int.add_zero, Int.zero_add, Int.sub_zero, Int.neg_neg, not_true_eq_false, not_false_eq_true, Int.add_sub_cancel, gI_189, pI_189, iO_189, gR_189_0, aI_190, sI_190, gR_189_1, aI_191, sI_191, gR_189_3, aI_192, gR_189_10, aI_193, sI_193, gR_189_11, aI_194, sI_194, gR_189_13, aI_195, sI_195, gR_189_15, aI_196, sI_196, gR_189_17, aI_197, sI_197, gR_189_18, aI_198, sI_198, gR_189_19, aI_199, sI_199, gR_189_20, aI_200, sI_200, gR_189_23, aI_201, gR_189_24, aI_202, sI_202, gR_189_25, aI_203, sI_203, gR_189_29, aI_204, sI_204, gR_189_32, aI_205, sI_205, gR_189_35, aI_206, sI_206, pZ_189, gL_189, pL_189, ht, I6_l, t64, I6_m, lg_gt]
    refine WI_i (fun h' => ?_) (fun h' => ?_)
    · simp (disch := first | assumption | omega) only [↓b_hid, bH_some, ↓hid_W, ↓W_ite, WI_t, WI_f, W_some, I3_a, I3_s, I3_m, I3_n, I3_l, I3_lt, I3_le, I3_e, I3_dv, I3_rm, I3_mx, I3_mn, I3_ab, cI, bI_0, bI_1, rZ_b, up_same, up_row, up_col, xr_some, LQ_r, LQ_l, Int.sub_self, Int.add_zero, Int.zero_add, Int.sub_zero, Int.neg_neg, not_true_eq_false, not_false_eq_true, Int.add_sub_cancel]; rw [bI_f]; unfold mt; rw [if_pos (by omega)]; omega
    · simp (disch := first | assumption | omega) only [↓b_hid, bH_some, ↓hid_W, ↓W_ite, WI_t, WI_f, W_some, I3_a, I3_s, I3_m, I3_n, I3_l, I3_lt, I3_le, I3_e, I3_dv, I3_rm, I3_mx, I3_mn, I3_ab, cI, bI_0, bI_1, rZ_b, up_same, up_row, up_col, xr_some, LQ_r, LQ_l, Int.sub_self, Int.add_zero, Int.zero_add, Int.sub_zero, Int.neg_neg, not_true_eq_false, not_false_eq_true, Int.add_sub_cancel]; rw [bI_t]; unfold mt; rw [if_pos (by omega)]; omega
/-- the train that is looked at -/
def Ld (z : Nat → Int → Int) (n : Int) (d : Int → Int) : Prop := z 189 14 = n ∧ ∀ i, 0 ≤ i → i < n → z 195 i = d i
theorem m_looks {s : Int} (hs : 0 ≤ s) (hs' : s < 3) (h0 : 0 ≤ z 190 (83 + s)) (h1 : z 190 (83 + s) ≤ 200) : WP (f_X12_looksAt 189 (I3 s) (M p z l)) (fun μ => ∃ z', μ = M p z' l ∧ Ld z' (z 190 (83 + s)) (fun i => z 190 (86 + 200 * s + i)) ∧ (∀ k, k ≠ 189 → k ≠ 195 → z' k = z k) ∧ ∀ j, j ≠ 14 → z' 189 j = z 189 j) := by
  unfold f_X12_looksAt
  simp (disch := first | assumption | omega) only [↓b_hid, bH_some, ↓hid_W, ↓W_ite, WI_t, WI_f, W_some, I3_a, I3_s, I3_m, I3_n, I3_l, I3_lt, I3_le, I3_e, I3_dv, I3_rm, I3_mx, I3_mn, I3_ab, cI, bI_0, bI_1, rZ_b, up_same, up_row, up_col, xr_some, LQ_r, LQ_l, Int.sub_self, Int.add_zero, Int.zero_add, Int.sub_zero, Int.neg_neg, not_true_eq_false, not_false_eq_true, Int.add_sub_cancel, gI_189, pI_189, iO_189, gR_189_0, aI_190, sI_190, gR_189_1, aI_191, sI_191, gR_189_3, aI_192, gR_189_10, aI_193, sI_193, gR_189_11, aI_194, sI_194, gR_189_13, aI_195, sI_195, gR_189_15, aI_196, sI_196, gR_189_17, aI_197, sI_197, gR_189_18, aI_198, sI_198, gR_189_19, aI_199, sI_199, gR_189_20, aI_200, sI_200, gR_189_23, aI_201, gR_189_24, aI_202, sI_202, gR_189_25, aI_203, sI_203, gR_189_29, aI_204, sI_204, gR_189_32, aI_205, sI_205, gR_189_35, aI_206, sI_206, pZ_189, gL_189, pL_189]
  unfold f_X12_looksAt_15
  refine lp_W (fun m st => ∃ (k : Int) (z' : Nat → Int → Int), st = (189, I3 s, I3 k, M p z' l) ∧ 0 ≤ k ∧ k ≤ z 190 (83 + s) ∧ m = (z 190 (83 + s) - k).toNat ∧ z' 189 14 = z 190 (83 + s) ∧ (∀ i, 0 ≤ i → i < k → z' 195 i = z 190 (86 + 200 * s + i)) ∧ (∀ k, k ≠ 189 → k ≠ 195 → z' k = z k) ∧ ∀ j, j ≠ 14 → z' 189 j = z 189 j) (fun m st hs => ?_) ⟨0, _, rfl, by omega, h0, rfl, by rw [up_same], by intro i a b; omega, fun k a b => up_row a _ _ _, fun j hj => up_col hj _ _ _ _⟩
  obtain ⟨k, z', rfl, k0, k1, rfl, a1, a2, a3, a4⟩ := hs
  have e190 : z' 190 = z 190 := a3 190 (by decide) (by decide)
  unfold f_X12_looksAt_15_b
  by_cases hk : k < z 190 (83 + s)
  · simp (disch := first | assumption | omega) only [↓b_hid, bH_some, ↓hid_W, ↓W_ite, WI_t, WI_f, W_some, I3_a, I3_s, I3_m, I3_n, I3_l, I3_lt, I3_le, I3_e, I3_dv, I3_rm, I3_mx, I3_mn, I3_ab, cI, bI_0, bI_1, rZ_b, up_same, up_row, up_col, xr_some, LQ_r, LQ_l, Int.sub_self, Int.add_zero, Int.zero_add, Int.sub_zero, Int.neg_neg, not_true_eq_false, not_false_eq_true, Int.add_sub_cancel, gI_189, pI_189, iO_189, gR_189_0, aI_190, sI_190, gR_189_1, aI_191, sI_191, gR_189_3, aI_192, gR_189_10, aI_193, sI_193, gR_189_11, aI_194, sI_194, gR_189_13, aI_195, sI_195, gR_189_15, aI_196, sI_196, gR_189_17, aI_197, sI_197, gR_189_18, aI_198, sI_198, gR_189_19, aI_199, sI_199, gR_189_20, aI_200, sI_200, gR_189_23, aI_201, gR_189_24, aI_202, sI_202, gR_189_25, aI_203, sI_203, gR_189_29, aI_204, sI_204, gR_189_32, aI_205, sI_205, gR_189_35, aI_206, sI_206, pZ_189, gL_189, pL_189, a1, m_trainAt, e190, WI_pos, WI_neg]
    refine ⟨_, ?_, k + 1, _, rfl, by omega, by omega, rfl, ?_, ?_, ?_, ?_⟩
    · omega
    · rw [up_row (by decide)]; exact a1
    · intro i i0 i1
      by_cases hi : i = k
      · subst hi; rw [up_same]
      · rw [up_col hi]; exact a2 i i0 (by omega)
    · intro c c1 c2; rw [up_row c2]; exact a3 c c1 c2
    · intro j hj; rw [up_row (by decide)]; exact a4 j hj
  · have : k = z 190 (83 + s) := by omega
    subst this
    simp (disch := first | assumption | omega) only [↓b_hid, bH_some, ↓hid_W, ↓W_ite, WI_t, WI_f, W_some, I3_a, I3_s, I3_m, I3_n, I3_l, I3_lt, I3_le, I3_e, I3_dv, I3_rm, I3_mx, I3_mn, I3_ab, cI, bI_0, bI_1, rZ_b, up_same, up_row, up_col, xr_some, LQ_r, LQ_l, Int.sub_self, Int.add_zero, Int.zero_add, Int.sub_zero, Int.neg_neg, not_true_eq_false, not_false_eq_true, Int.add_sub_cancel, gI_189, pI_189, iO_189, gR_189_0, aI_190, sI_190, gR_189_1, aI_191, sI_191, gR_189_3, aI_192, gR_189_10, aI_193, sI_193, gR_189_11, aI_194, sI_194, gR_189_13, aI_195, sI_195, gR_189_15, aI_196, sI_196, gR_189_17, aI_197, sI_197, gR_189_18, aI_198, sI_198, gR_189_19, aI_199, sI_199, gR_189_20, aI_200, sI_200, gR_189_23, aI_201, gR_189_24, aI_202, sI_202, gR_189_25, aI_203, sI_203, gR_189_29, aI_204, sI_204, gR_189_32, aI_205, sI_205, gR_189_35, aI_206, sI_206, pZ_189, gL_189, pL_189, a1, f_X12_looksAt_46, WI_pos, WI_neg]
    exact ⟨z', rfl, ⟨a1, a2⟩, a3, a4⟩
def FLm (z : Nat → Int → Int) (L : List (Int × Int)) : Prop := z 189 21 = L.length ∧ ∀ i : Nat, i < L.length → z 199 i = (gl L i).1 ∧ z 200 i = (gl L i).2
def FrL (z z' : Nat → Int → Int) : Prop := (∀ k, k ≠ 189 → k ≠ 199 → k ≠ 200 → z' k = z k) ∧ ∀ j, j ≠ 21 → z' 189 j = z 189 j
theorem m_finds {n gap : Int} {d : Int → Int} (hL : Ld z n d) (hg : z 190 0 = gap) (h0 : 0 ≤ n) (h1 : n ≤ 200) (hg0 : -2147483648 ≤ gap) (hg' : gap < 2147483648) (hd : ∀ i, 0 ≤ i → i < n → 0 ≤ d i ∧ d i < 2147483648) : WP (f_X12_findsFrames 189 (M p z l)) (fun μ => ∃ z', μ = M p z' l ∧ FLm z' (FS d n gap) ∧ FrL z z') := by
  unfold f_X12_findsFrames
  simp (disch := first | assumption | omega) only [↓b_hid, bH_some, ↓hid_W, ↓W_ite, WI_t, WI_f, W_some, I3_a, I3_s, I3_m, I3_n, I3_l, I3_lt, I3_le, I3_e, I3_dv, I3_rm, I3_mx, I3_mn, I3_ab, cI, bI_0, bI_1, rZ_b, up_same, up_row, up_col, xr_some, LQ_r, LQ_l, Int.sub_self, Int.add_zero, Int.zero_add, Int.sub_zero, Int.neg_neg, not_true_eq_false, not_false_eq_true, Int.add_sub_cancel, gI_189, pI_189, iO_189, gR_189_0, aI_190, sI_190, gR_189_1, aI_191, sI_191, gR_189_3, aI_192, gR_189_10, aI_193, sI_193, gR_189_11, aI_194, sI_194, gR_189_13, aI_195, sI_195, gR_189_15, aI_196, sI_196, gR_189_17, aI_197, sI_197, gR_189_18, aI_198, sI_198, gR_189_19, aI_199, sI_199, gR_189_20, aI_200, sI_200, gR_189_23, aI_201, gR_189_24, aI_202, sI_202, gR_189_25, aI_203, sI_203, gR_189_29, aI_204, sI_204, gR_189_32, aI_205, sI_205, gR_189_35, aI_206, sI_206, pZ_189, gL_189, pL_189]
  unfold f_X12_findsFrames_9
  have hFS : 0 < n → FS d n gap = [] ++ fsl d gap (fsE n) 200 1 0 := by intro hn; unfold FS; rw [if_neg (by omega)]; rfl
  have hFS0 : n = 0 → FS d n gap = [] := by intro hn; unfold FS; rw [if_pos hn]
  refine lp_W (fun m st => ∃ (f : Nat) (k a : Int) (L : List (Int × Int)) (z' : Nat → Int → Int), st = (189, I3 a, I3 k, M p z' l) ∧ 1 ≤ k ∧ k % 2 = 1 ∧ k ≤ n + 2 ∧ 0 ≤ a ∧ a ≤ k ∧ m = (n + 2 - k).toNat ∧ 2 * (L.length : Int) ≤ k - 1 ∧ (k ≤ n ∧ fsE n - k < 2 * f ∧ FS d n gap = L ++ fsl d gap (fsE n) f k a ∨ n < k ∧ FS d n gap = L) ∧ FLm z' L ∧ FrL z z') (fun m st hs => ?_) ⟨200, 1, 0, [], _, rfl, by omega, by omega, by omega, by omega, by omega, rfl, by simp, ?_, ⟨by rw [up_same]; rfl, fun i hi => by simp at hi⟩, ⟨fun k a _ _ => up_row a _ _ _, fun j hj => up_col hj _ _ _ _⟩⟩
  · obtain ⟨f, k, a, L, z', rfl, k1, k2, k3, a1, a2, rfl, hLl, hS, hFL, hF⟩ := hs
    have e14 : z' 189 14 = n := (hF.2 14 (by decide)).trans hL.1
    have eg : z' 190 0 = gap := by rw [hF.1 190 (by decide) (by decide) (by decide)]; exact hg
    have e195 : z' 195 = z 195 := hF.1 195 (by decide) (by decide) (by decide)
    unfold f_X12_findsFrames_9_b
    rcases hS with ⟨hkn, hf, hS⟩ | ⟨hkn, hS⟩
    · have hE := fsE_r (show 0 < n by omega)
      have hEk : k ≤ fsE n := by unfold fsE; split <;> omega
      obtain ⟨f, rfl⟩ : ∃ f', f = f' + 1 := ⟨f - 1, by omega⟩
      unfold fsl at hS
      have endc : ¬k < fsE n → WP (f_X12_findsFrames_42 189 (I3 a) (I3 k) (M p z' l)) (LQ (fun μ => ∃ z', μ = M p z' l ∧ FLm z' (FS d n gap) ∧ FrL z z') (fun m st => ∃ (f : Nat) (k a : Int) (L : List (Int × Int)) (z' : Nat → Int → Int), st = (189, I3 a, I3 k, M p z' l) ∧ 1 ≤ k ∧ k % 2 = 1 ∧ k ≤ n + 2 ∧ 0 ≤ a ∧ a ≤ k ∧ m = (n + 2 - k).toNat ∧ 2 * (L.length : Int) ≤ k - 1 ∧ (k ≤ n ∧ fsE n - k < 2 * f ∧ FS d n gap = L ++ fsl d gap (fsE n) f k a ∨ n < k ∧ FS d n gap = L) ∧ FLm z' L ∧ FrL z z') ((n + 2 - k).toNat)) ∧ True := by
        intro hk
        rw [if_neg hk] at hS
        have hkE : k = fsE n := by omega
        obtain ⟨b1, b2⟩ := hFL
        refine ⟨?_, trivial⟩
        unfold f_X12_findsFrames_42 f_X12_findsFrames_47
        simp (disch := first | assumption | omega) only [↓b_hid, bH_some, ↓hid_W, ↓W_ite, WI_t, WI_f, W_some, I3_a, I3_s, I3_m, I3_n, I3_l, I3_lt, I3_le, I3_e, I3_dv, I3_rm, I3_mx, I3_mn, I3_ab, cI, bI_0, bI_1, rZ_b, up_same, up_row, up_col, xr_some, LQ_r, LQ_l, Int.sub_self, Int.add_zero, Int.zero_add, Int.sub_zero, Int.neg_neg, not_true_eq_false, not_false_eq_true, Int.add_sub_cancel, gI_189, pI_189, iO_189, gR_189_0, aI_190, sI_190, gR_189_1, aI_191, sI_191, gR_189_3, aI_192, gR_189_10, aI_193, sI_193, gR_189_11, aI_194, sI_194, gR_189_13, aI_195, sI_195, gR_189_15, aI_196, sI_196, gR_189_17, aI_197, sI_197, gR_189_18, aI_198, sI_198, gR_189_19, aI_199, sI_199, gR_189_20, aI_200, sI_200, gR_189_23, aI_201, gR_189_24, aI_202, sI_202, gR_189_25, aI_203, sI_203, gR_189_29, aI_204, sI_204, gR_189_32, aI_205, sI_205, gR_189_35, aI_206, sI_206, pZ_189, gL_189, pL_189, b1, f_X12_findsFrames_88, WI_pos, WI_neg]
        refine ⟨_, ?_, 0, k + 2, k + 1, L ++ [(a, fsE n - a)], _, rfl, by omega, by omega, by omega, by omega, by omega, rfl, ?_, Or.inr ⟨?_, hS⟩, ⟨?_, ?_⟩, ?_, ?_⟩
        · omega
        · rw [List.length_append]; simp; omega
        · unfold fsE at hkE; split at hkE <;> omega
        · rw [up_same, List.length_append]; simp
        · intro i hi
          rw [List.length_append] at hi
          simp only [List.length_cons, List.length_nil] at hi
          rw [gl_app]
          by_cases h1 : i < L.length
          · rw [if_pos h1]
            exact ⟨by rw [up_row (by decide), up_row (by decide), up_col (by omega)]; exact (b2 i h1).1, by rw [up_row (by decide), up_col (by omega), up_row (by decide)]; exact (b2 i h1).2⟩
          · have : i = L.length := by omega
            subst this
            rw [if_neg h1, if_pos rfl]
            exact ⟨by rw [up_row (by decide), up_row (by decide), up_same], by rw [up_row (by decide), up_same, hkE]⟩
        · intro c c1 c2 c3; rw [up_row c1, up_row c3, up_row c2]; exact hF.1 c c1 c2 c3
        · intro j hj; rw [up_col hj, up_row (by decide), up_row (by decide)]; exact hF.2 j hj
      by_cases hk : k < fsE n
      · rw [if_pos hk] at hS
        obtain ⟨d1, d2⟩ := hd k (by omega) (by omega)
        have ek : z 195 k = d k := hL.2 k (by omega) (by omega)
        have hkn1 : k < n - 1 := by unfold fsE at hk; split at hk <;> omega
        simp (disch := first | assumption | omega) only [↓b_hid, bH_some, ↓hid_W, ↓W_ite, WI_t, WI_f, W_some, I3_a, I3_s, I3_m, I3_n, I3_l, I3_lt, I3_le, I3_e, I3_dv, I3_rm, I3_mx, I3_mn, I3_ab, cI, bI_0, bI_1, rZ_b, up_same, up_row, up_col, xr_some, LQ_r, LQ_l, Int.sub_self, Int.add_zero, Int.zero_add, Int.sub_zero, Int.neg_neg, not_true_eq_false, not_false_eq_true, Int.add_sub_cancel, gI_189, pI_189, iO_189, gR_189_0, aI_190, sI_190, gR_189_1, aI_191, sI_191, gR_189_3, aI_192, gR_189_10, aI_193, sI_193, gR_189_11, aI_194, sI_194, gR_189_13, aI_195, sI_195, gR_189_15, aI_196, sI_196, gR_189_17, aI_197, sI_197, gR_189_18, aI_198, sI_198, gR_189_19, aI_199, sI_199, gR_189_20, aI_200, sI_200, gR_189_23, aI_201, gR_189_24, aI_202, sI_202, gR_189_25, aI_203, sI_203, gR_189_29, aI_204, sI_204, gR_189_32, aI_205, sI_205, gR_189_35, aI_206, sI_206, pZ_189, gL_189, pL_189, e14, eg, e195, ek, WI_pos, WI_neg]
        refine WI_i (fun h => ?_) (fun h => ?_)
        · rw [if_neg (by omega)] at hS
          simp (disch := first | assumption | omega) only [↓b_hid, bH_some, ↓hid_W, ↓W_ite, WI_t, WI_f, W_some, I3_a, I3_s, I3_m, I3_n, I3_l, I3_lt, I3_le, I3_e, I3_dv, I3_rm, I3_mx, I3_mn, I3_ab, cI, bI_0, bI_1, rZ_b, up_same, up_row, up_col, xr_some, LQ_r, LQ_l, Int.sub_self, Int.add_zero, Int.zero_add, Int.sub_zero, Int.neg_neg, not_true_eq_false, not_false_eq_true, Int.add_sub_cancel, f_X12_findsFrames_47, f_X12_findsFrames_88, WI_pos, WI_neg]
          exact ⟨_, by omega, f, k + 2, a, L, z', rfl, by omega, by omega, by omega, a1, by omega, rfl, by omega, Or.inl ⟨by omega, by omega, hS⟩, hFL, hF⟩
        · rw [if_pos (by omega)] at hS
          obtain ⟨b1, b2⟩ := hFL
          simp (disch := first | assumption | omega) only [↓b_hid, bH_some, ↓hid_W, ↓W_ite, WI_t, WI_f, W_some, I3_a, I3_s, I3_m, I3_n, I3_l, I3_lt, I3_le, I3_e, I3_dv, I3_rm, I3_mx, I3_mn, I3_ab, cI, bI_0, bI_1, rZ_b, up_same, up_row, up_col, xr_some, LQ_r, LQ_l, Int.sub_self, Int.add_zero, Int.zero_add, Int.sub_zero, Int.neg_neg, not_true_eq_false, not_false_eq_true, Int.add_sub_cancel, gI_189, pI_189, iO_189, gR_189_0, aI_190, sI_190, gR_189_1, aI_191, sI_191, gR_189_3, aI_192, gR_189_10, aI_193, sI_193, gR_189_11, aI_194, sI_194, gR_189_13, aI_195, sI_195, gR_189_15, aI_196, sI_196, gR_189_17, aI_197, sI_197, gR_189_18, aI_198, sI_198, gR_189_19, aI_199, sI_199, gR_189_20, aI_200, sI_200, gR_189_23, aI_201, gR_189_24, aI_202, sI_202, gR_189_25, aI_203, sI_203, gR_189_29, aI_204, sI_204, gR_189_32, aI_205, sI_205, gR_189_35, aI_206, sI_206, pZ_189, gL_189, pL_189, b1, f_X12_findsFrames_42, f_X12_findsFrames_47, f_X12_findsFrames_88, WI_pos, WI_neg]
          refine ⟨_, ?_, f, k + 2, k + 1, L ++ [(a, k - a)], _, rfl, by omega, by omega, by omega, by omega, by omega, rfl, ?_, Or.inl ⟨by omega, by omega, ?_⟩, ⟨?_, ?_⟩, ?_, ?_⟩
          · omega
          · rw [List.length_append]; simp; omega
          · rw [hS, List.append_assoc]; rfl
          · rw [up_same, List.length_append]; simp
          · intro i hi
            rw [List.length_append] at hi
            simp only [List.length_cons, List.length_nil] at hi
            rw [gl_app]
            by_cases h1 : i < L.length
            · rw [if_pos h1]
              exact ⟨by rw [up_row (by decide), up_row (by decide), up_col (by omega)]; exact (b2 i h1).1, by rw [up_row (by decide), up_col (by omega), up_row (by decide)]; exact (b2 i h1).2⟩
            · have : i = L.length := by omega
              subst this
              rw [if_neg h1, if_pos rfl]
              exact ⟨by rw [up_row (by decide), up_row (by decide), up_same], by rw [up_row (by decide), up_same]⟩
          · intro c c1 c2 c3; rw [up_row c1, up_row c3, up_row c2]; exact hF.1 c c1 c2 c3
          · intro j hj; rw [up_col hj, up_row (by decide), up_row (by decide)]; exact hF.2 j hj
      · have hkn1 : n - 1 ≤ k := by unfold fsE at hk; split at hk <;> omega
        have h42 := (endc hk).1
        simp (disch := first | assumption | omega) only [↓b_hid, bH_some, ↓hid_W, ↓W_ite, WI_t, WI_f, W_some, I3_a, I3_s, I3_m, I3_n, I3_l, I3_lt, I3_le, I3_e, I3_dv, I3_rm, I3_mx, I3_mn, I3_ab, cI, bI_0, bI_1, rZ_b, up_same, up_row, up_col, xr_some, LQ_r, LQ_l, Int.sub_self, Int.add_zero, Int.zero_add, Int.sub_zero, Int.neg_neg, not_true_eq_false, not_false_eq_true, Int.add_sub_cancel, gI_189, pI_189, iO_189, gR_189_0, aI_190, sI_190, gR_189_1, aI_191, sI_191, gR_189_3, aI_192, gR_189_10, aI_193, sI_193, gR_189_11, aI_194, sI_194, gR_189_13, aI_195, sI_195, gR_189_15, aI_196, sI_196, gR_189_17, aI_197, sI_197, gR_189_18, aI_198, sI_198, gR_189_19, aI_199, sI_199, gR_189_20, aI_200, sI_200, gR_189_23, aI_201, gR_189_24, aI_202, sI_202, gR_189_25, aI_203, sI_203, gR_189_29, aI_204, sI_204, gR_189_32, aI_205, sI_205, gR_189_35, aI_206, sI_206, pZ_189, gL_189, pL_189, e14, WI_pos, WI_neg]
        exact h42
    · simp (disch := first | assumption | omega) only [↓b_hid, bH_some, ↓hid_W, ↓W_ite, WI_t, WI_f, W_some, I3_a, I3_s, I3_m, I3_n, I3_l, I3_lt, I3_le, I3_e, I3_dv, I3_rm, I3_mx, I3_mn, I3_ab, cI, bI_0, bI_1, rZ_b, up_same, up_row, up_col, xr_some, LQ_r, LQ_l, Int.sub_self, Int.add_zero, Int.zero_add, Int.sub_zero, Int.neg_neg, not_true_eq_false, not_false_eq_true, Int.add_sub_cancel, gI_189, pI_189, iO_189, gR_189_0, aI_190, sI_190, gR_189_1, aI_191, sI_191, gR_189_3, aI_192, gR_189_10, aI_193, sI_193, gR_189_11, aI_194, sI_194, gR_189_13, aI_195, sI_195, gR_189_15, aI_196, sI_196, gR_189_17, aI_197, sI_197, gR_189_18, aI_198, sI_198, gR_189_19, aI_199, sI_199, gR_189_20, aI_200, sI_200, gR_189_23, aI_201, gR_189_24, aI_202, sI_202, gR_189_25, aI_203, sI_203, gR_189_29, aI_204, sI_204, gR_189_32, aI_205, sI_205, gR_189_35, aI_206, sI_206, pZ_189, gL_189, pL_189, e14, f_X12_findsFrames_94, WI_pos, WI_neg]
      exact ⟨z', rfl, by rw [hS]; exact hFL, hF⟩
  · by_cases hn : n = 0
    · exact Or.inr ⟨by omega, hFS0 hn⟩
    · have := fsE_r (show 0 < n by omega)
      exact Or.inl ⟨by omega, by omega, hFS (by omega)⟩
/-- durations that a frame's match can meet -/
def Ed (z : Nat → Int → Int) (n : Int) (d : Int → Int) (tol : Int) : Prop := Ld z n d ∧ (0 ≤ n ∧ n ≤ 400) ∧ z 189 22 = tol ∧ (0 ≤ tol ∧ tol ≤ 40) ∧ ∀ i, 0 ≤ i → i < n → 0 ≤ d i ∧ d i ≤ 20000000
theorem m_mat {n tol i len : Int} {d : Int → Int} (hE : Ed z n d tol) (h0 : 0 ≤ i) (h1 : i < n) (h2 : 0 ≤ len) (h3 : len ≤ 20000000) : f_X12_matches 189 (I3 (d i)) (I3 len) (M p z l) = some (I3 (bI (mt (d i) len tol)), M p z l) := by
  obtain ⟨_, _, ht, ⟨t0, t1⟩, hd⟩ := hE
  exact m_matches ht (hd i h0 h1).1 (hd i h0 h1).2 h2 h3 t0 t1
theorem m_rd {n tol i : Int} {d : Int → Int} (hE : Ed z n d tol) (h0 : 0 ≤ i) (h1 : i < n) : aI (M p z l) 15 195 (I3 i) = some (I3 (d i)) := by
  obtain ⟨⟨_, hd⟩, hn, _⟩ := hE
  rw [aI_195 h0 (by omega), hd i h0 h1]
theorem m_match {n tol a b len : Int} {d : Int → Int} (hE : Ed z n d tol) (ha : 0 ≤ a) (ha' : a ≤ b + 1) (hb : b ≤ n) (h2 : 0 ≤ len) (h3 : len ≤ 20000000) : WP (f_X12_match 189 (I3 a) (I3 b) (I3 len) (M p z l)) (fun r => ∃ v, r = (I3 v, M p z l) ∧ (v = 1 ∧ (∀ k, a ≤ k → k < b → (k - a) % 2 = 0 → mt (d k) len tol) ∨ v = 0 ∧ ¬∀ k, a ≤ k → k < b → (k - a) % 2 = 0 → mt (d k) len tol)) := by
  have hn := hE.2.1
  unfold f_X12_match f_X12_match_6
  refine lp_W (fun m st => ∃ (k v : Int), st = (189, I3 b, I3 len, I3 v, I3 k, M p z l) ∧ a ≤ k ∧ (k - a) % 2 = 0 ∧ k ≤ b + 1 ∧ m = (b + 2 - k).toNat ∧ (v = 1 ∧ (∀ i, a ≤ i → i < k → (i - a) % 2 = 0 → mt (d i) len tol) ∨ v = 0 ∧ ¬∀ i, a ≤ i → i < b → (i - a) % 2 = 0 → mt (d i) len tol)) (fun m st hs => ?_) ⟨a, 1, rfl, by omega, by omega, by omega, rfl, Or.inl ⟨rfl, by intro i a b; omega⟩⟩
  obtain ⟨k, v, rfl, k0, k2, k1, rfl, hv⟩ := hs
  unfold f_X12_match_6_b
  have hv01 : v = 0 ∨ v = 1 := by rcases hv with h | h <;> omega
  by_cases hk : k < b
  · rcases hv with ⟨rfl, hv⟩ | ⟨rfl, hv⟩
    · have e1 := m_rd (p := p) (l := l) hE (show 0 ≤ k by omega) (by omega)
      have e2 := m_mat (p := p) (l := l) hE (show 0 ≤ k by omega) (by omega) h2 h3
      simp (disch := first | assumption | omega) only [↓b_hid, bH_some, ↓hid_W, ↓W_ite, WI_t, WI_f, W_some, I3_a, I3_s, I3_m, I3_n, I3_l, I3_lt, I3_le, I3_e, I3_dv, I3_rm, I3_mx, I3_mn, I3_ab, cI, bI_0, bI_1, rZ_b, up_same, up_row, up_col, xr_some, LQ_r, LQ_l, Int.sub_self, Int.add_zero, Int.zero_add, Int.sub_zero, Int.neg_neg, not_true_eq_false, not_false_eq_true, Int.add_sub_cancel, gI_189, pI_189, iO_189, gR_189_0, aI_190, sI_190, gR_189_1, aI_191, sI_191, gR_189_3, aI_192, gR_189_10, aI_193, sI_193, gR_189_11, aI_194, sI_194, gR_189_13, aI_195, sI_195, gR_189_15, aI_196, sI_196, gR_189_17, aI_197, sI_197, gR_189_18, aI_198, sI_198, gR_189_19, aI_199, sI_199, gR_189_20, aI_200, sI_200, gR_189_23, aI_201, gR_189_24, aI_202, sI_202, gR_189_25, aI_203, sI_203, gR_189_29, aI_204, sI_204, gR_189_32, aI_205, sI_205, gR_189_35, aI_206, sI_206, pZ_189, gL_189, pL_189, e1, e2, WI_pos, WI_neg]
      refine WI_i (fun h => ?_) (fun h => ?_)
      · simp (disch := first | assumption | omega) only [↓b_hid, bH_some, ↓hid_W, ↓W_ite, WI_t, WI_f, W_some, I3_a, I3_s, I3_m, I3_n, I3_l, I3_lt, I3_le, I3_e, I3_dv, I3_rm, I3_mx, I3_mn, I3_ab, cI, bI_0, bI_1, rZ_b, up_same, up_row, up_col, xr_some, LQ_r, LQ_l, Int.sub_self, Int.add_zero, Int.zero_add, Int.sub_zero, Int.neg_neg, not_true_eq_false, not_false_eq_true, Int.add_sub_cancel, f_X12_match_36, f_X12_match_37]
        refine ⟨_, ?_, k + 2, 0, rfl, by omega, by omega, by omega, rfl, Or.inr ⟨rfl, fun hx => h (hx k k0 hk k2)⟩⟩
        omega
      · simp (disch := first | assumption | omega) only [↓b_hid, bH_some, ↓hid_W, ↓W_ite, WI_t, WI_f, W_some, I3_a, I3_s, I3_m, I3_n, I3_l, I3_lt, I3_le, I3_e, I3_dv, I3_rm, I3_mx, I3_mn, I3_ab, cI, bI_0, bI_1, rZ_b, up_same, up_row, up_col, xr_some, LQ_r, LQ_l, Int.sub_self, Int.add_zero, Int.zero_add, Int.sub_zero, Int.neg_neg, not_true_eq_false, not_false_eq_true, Int.add_sub_cancel, f_X12_match_37]
        refine ⟨_, ?_, k + 2, 1, rfl, by omega, by omega, by omega, rfl, Or.inl ⟨rfl, ?_⟩⟩
        · omega
        · intro i i0 i1 i2
          by_cases hi : i = k
          · subst hi; exact Classical.byContradiction h
          · exact hv i i0 (by omega) i2
    · simp (disch := first | assumption | omega) only [↓b_hid, bH_some, ↓hid_W, ↓W_ite, WI_t, WI_f, W_some, I3_a, I3_s, I3_m, I3_n, I3_l, I3_lt, I3_le, I3_e, I3_dv, I3_rm, I3_mx, I3_mn, I3_ab, cI, bI_0, bI_1, rZ_b, up_same, up_row, up_col, xr_some, LQ_r, LQ_l, Int.sub_self, Int.add_zero, Int.zero_add, Int.sub_zero, Int.neg_neg, not_true_eq_false, not_false_eq_true, Int.add_sub_cancel, f_X12_match_36, f_X12_match_37, WI_pos, WI_neg]
      refine ⟨_, ?_, k + 2, 0, rfl, by omega, by omega, by omega, rfl, Or.inr ⟨rfl, hv⟩⟩
      omega
  · have hz : rZ (I3 v) (M p z l) = some (I3 v, M p z l) := by
      unfold rZ; rw [if_pos]
      rcases hv01 with rfl | rfl
      · exact Or.inl rfl
      · exact Or.inr rfl
    simp (disch := first | assumption | omega) only [↓b_hid, bH_some, ↓hid_W, ↓W_ite, WI_t, WI_f, W_some, I3_a, I3_s, I3_m, I3_n, I3_l, I3_lt, I3_le, I3_e, I3_dv, I3_rm, I3_mx, I3_mn, I3_ab, cI, bI_0, bI_1, rZ_b, up_same, up_row, up_col, xr_some, LQ_r, LQ_l, Int.sub_self, Int.add_zero, Int.zero_add, Int.sub_zero, Int.neg_neg, not_true_eq_false, not_false_eq_true, Int.add_sub_cancel, f_X12_match_45, hz, WI_pos, WI_neg]
    refine ⟨v, rfl, ?_⟩
    rcases hv with ⟨rfl, hv⟩ | h
    · exact Or.inl ⟨rfl, fun i i0 i1 i2 => hv i i0 (by omega) i2⟩
    · exact Or.inr h
/-- the bits in the order of sending, as one number -/
def bvs (b : Int → Int) : Nat → Int
  | 0 => 0
  | k + 1 => 2 * bvs b k + b k
theorem bvs_r (b : Int → Int) (hb : ∀ k : Nat, b k = 0 ∨ b k = 1) : ∀ n : Nat, 0 ≤ bvs b n ∧ bvs b n < pw n
  | 0 => by simp [bvs, pw]
  | n + 1 => by
    have h := bvs_r b hb n
    have e : pw ((n + 1 : Nat) : Int) = 2 * pw n := by unfold pw; simp [Int.pow_succ]; omega
    rw [bvs, e]
    rcases hb n with h | h <;> omega
theorem bt_half {v b j : Int} (hb : b = 0 ∨ b = 1) (hv : 0 ≤ v) (hj : 0 ≤ j) : bt (2 * v + b) (j + 1) = bt v j := by
  have e : pw (j + 1) = 2 * pw j := by
    obtain ⟨n, rfl⟩ : ∃ n : Nat, j = n := ⟨j.toNat, by omega⟩
    have e2 : ((n : Int) + 1).toNat = n + 1 := by omega
    unfold pw; rw [e2]; simp [Int.pow_succ]; omega
  unfold bt
  rw [e, ← Int.ediv_ediv_of_nonneg (by omega : (0 : Int) ≤ 2), show (2 * v + b) / 2 = v by omega]
theorem bvs_bt (b : Int → Int) (hb : ∀ k : Nat, b k = 0 ∨ b k = 1) : ∀ (n k : Nat), k < n → bt (bvs b n) ((n : Int) - 1 - k) = b k
  | 0, k, h => by omega
  | n + 1, k, h => by
    have hr := bvs_r b hb n
    rw [bvs]
    by_cases hk : k = n
    · subst hk
      rw [show ((k + 1 : Nat) : Int) - 1 - k = 0 by omega]
      unfold bt
      rw [show pw 0 = 1 from rfl, Int.ediv_one]
      rcases hb k with h | h <;> omega
    · rw [show ((n + 1 : Nat) : Int) - 1 - k = ((n : Int) - 1 - k) + 1 by omega, bt_half (hb n) hr.1 (by omega)]
      exact bvs_bt b hb n k (by omega)
theorem pw16 {n : Nat} (h : (n : Int) ≤ 16) : pw n ≤ 65536 := (pw_r (k := n) (by omega) h).2
theorem m_ordered {q : Int} {f b : Int → Int} (hq : 0 ≤ q) (hq' : q < 6) (hf : Rw z q f) (hP : PV f) (hb : ∀ k : Nat, b k = 0 ∨ b k = 1) : f_X12_ordered 189 (I3 q) (I3 (bvs b (f 6).toNat)) (M p z l) = some (I3 (csum f b (f 6).toNat), M p z l) := by
  obtain ⟨p0, p1, p2, p3, p4, p5, p6, p7⟩ := hP
  have h7 := hf 7 (by omega) (by omega)
  have h6 := hf 6 (by omega) (by omega)
  have hr := bvs_r b hb (f 6).toNat
  have hr16 := pw16 (n := (f 6).toNat) (by omega)
  apply W_eq; unfold f_X12_ordered
  simp (disch := first | assumption | omega) only [↓b_hid, bH_some, ↓hid_W, ↓W_ite, WI_t, WI_f, W_some, I3_a, I3_s, I3_m, I3_n, I3_l, I3_lt, I3_le, I3_e, I3_dv, I3_rm, I3_mx, I3_mn, I3_ab, cI, bI_0, bI_1, rZ_b, up_same, up_row, up_col, xr_some, LQ_r, LQ_l, Int.sub_self, Int.add_zero, Int.zero_add, Int.sub_zero, Int.neg_neg, not_true_eq_false, not_false_eq_true, Int.add_sub_cancel, gI_189, pI_189, iO_189, gR_189_0, aI_190, sI_190, gR_189_1, aI_191, sI_191, gR_189_3, aI_192, gR_189_10, aI_193, sI_193, gR_189_11, aI_194, sI_194, gR_189_13, aI_195, sI_195, gR_189_15, aI_196, sI_196, gR_189_17, aI_197, sI_197, gR_189_18, aI_198, sI_198, gR_189_19, aI_199, sI_199, gR_189_20, aI_200, sI_200, gR_189_23, aI_201, gR_189_24, aI_202, sI_202, gR_189_25, aI_203, sI_203, gR_189_29, aI_204, sI_204, gR_189_32, aI_205, sI_205, gR_189_35, aI_206, sI_206, pZ_189, gL_189, pL_189, m_at, h6]
  unfold f_X12_ordered_19
  refine lp_W (fun m st => ∃ k : Nat, st = (189, I3 q, I3 (bvs b (f 6).toNat), I3 (csum f b k), I3 (f 6), I3 k, M p z l) ∧ (k : Int) ≤ f 6 ∧ m = (f 6).toNat - k) (fun m st hs => ?_) ⟨0, rfl, by omega, rfl⟩
  obtain ⟨k, rfl, hk, rfl⟩ := hs
  unfold f_X12_ordered_19_b
  by_cases hk6 : (k : Int) < f 6
  · have e := shr_bt hr.1 (by omega) (show 0 ≤ f 6 - 1 - k by omega) (show f 6 - 1 - k ≤ 16 by omega)
    have eb := bvs_bt b hb (f 6).toNat k (by omega)
    rw [show (((f 6).toNat : Nat) : Int) - 1 - k = f 6 - 1 - k by omega] at eb
    rw [eb] at e
    have hcr := csum_r f b hb p5.2 k (by omega)
    have hbt := csum_bt f b hb p5.2 k k (Nat.le_refl _) hk6
    have hor := or_pw hcr.1 hbt
    have hpl := plc_r (f := f) (k := k) (by omega) hk6
    have fin : ∀ s : Int, s = plc f k → WP (f_X12_ordered_69 189 (I3 q) (I3 (bvs b (f 6).toNat)) (I3 (f 6)) (I3 k) (I3 s) (I3 (b k)) (I3 (csum f b k)) (M p z l)) (LQ (fun r => r = (I3 (csum f b (f 6).toNat), M p z l)) (fun m st => ∃ k : Nat, st = (189, I3 q, I3 (bvs b (f 6).toNat), I3 (csum f b k), I3 (f 6), I3 k, M p z l) ∧ (k : Int) ≤ f 6 ∧ m = (f 6).toNat - k) ((f 6).toNat - k)) := by
      intro s hs
      subst hs
      have hs1 := shl1 (k := plc f k) (by omega) (by omega)
      have hs0 := shl0 (k := plc f k) (by omega) (by omega)
      unfold f_X12_ordered_69
      rcases hb k with h0 | h0
      · rw [h0]
        simp (disch := first | assumption | omega) only [↓b_hid, bH_some, ↓hid_W, ↓W_ite, WI_t, WI_f, W_some, I3_a, I3_s, I3_m, I3_n, I3_l, I3_lt, I3_le, I3_e, I3_dv, I3_rm, I3_mx, I3_mn, I3_ab, cI, bI_0, bI_1, rZ_b, up_same, up_row, up_col, xr_some, LQ_r, LQ_l, Int.sub_self, Int.add_zero, Int.zero_add, Int.sub_zero, Int.neg_neg, not_true_eq_false, not_false_eq_true, Int.add_sub_cancel, hs0, or_0]
        exact ⟨_, by omega, k + 1, by rw [csum, h0, Int.zero_mul, Int.add_zero]; rfl, by omega, rfl⟩
      · rw [h0]
        simp (disch := first | assumption | omega) only [↓b_hid, bH_some, ↓hid_W, ↓W_ite, WI_t, WI_f, W_some, I3_a, I3_s, I3_m, I3_n, I3_l, I3_lt, I3_le, I3_e, I3_dv, I3_rm, I3_mx, I3_mn, I3_ab, cI, bI_0, bI_1, rZ_b, up_same, up_row, up_col, xr_some, LQ_r, LQ_l, Int.sub_self, Int.add_zero, Int.zero_add, Int.sub_zero, Int.neg_neg, not_true_eq_false, not_false_eq_true, Int.add_sub_cancel, hs1, hor]
        exact ⟨_, by omega, k + 1, by rw [csum, h0, Int.one_mul]; rfl, by omega, rfl⟩
    simp (disch := first | assumption | omega) only [↓b_hid, bH_some, ↓hid_W, ↓W_ite, WI_t, WI_f, W_some, I3_a, I3_s, I3_m, I3_n, I3_l, I3_lt, I3_le, I3_e, I3_dv, I3_rm, I3_mx, I3_mn, I3_ab, cI, bI_0, bI_1, rZ_b, up_same, up_row, up_col, xr_some, LQ_r, LQ_l, Int.sub_self, Int.add_zero, Int.zero_add, Int.sub_zero, Int.neg_neg, not_true_eq_false, not_false_eq_true, Int.add_sub_cancel, gI_189, pI_189, iO_189, gR_189_0, aI_190, sI_190, gR_189_1, aI_191, sI_191, gR_189_3, aI_192, gR_189_10, aI_193, sI_193, gR_189_11, aI_194, sI_194, gR_189_13, aI_195, sI_195, gR_189_15, aI_196, sI_196, gR_189_17, aI_197, sI_197, gR_189_18, aI_198, sI_198, gR_189_19, aI_199, sI_199, gR_189_20, aI_200, sI_200, gR_189_23, aI_201, gR_189_24, aI_202, sI_202, gR_189_25, aI_203, sI_203, gR_189_29, aI_204, sI_204, gR_189_32, aI_205, sI_205, gR_189_35, aI_206, sI_206, pZ_189, gL_189, pL_189, m_at, e, h7, WI_pos, WI_neg]
    refine WI_i (fun h => ?_) (fun h => ?_)
    · simp (disch := first | assumption | omega) only [↓b_hid, bH_some, ↓hid_W, ↓W_ite, WI_t, WI_f, W_some, I3_a, I3_s, I3_m, I3_n, I3_l, I3_lt, I3_le, I3_e, I3_dv, I3_rm, I3_mx, I3_mn, I3_ab, cI, bI_0, bI_1, rZ_b, up_same, up_row, up_col, xr_some, LQ_r, LQ_l, Int.sub_self, Int.add_zero, Int.zero_add, Int.sub_zero, Int.neg_neg, not_true_eq_false, not_false_eq_true, Int.add_sub_cancel]; exact fin _ (by unfold plc; rw [if_neg (by omega)])
    · simp (disch := first | assumption | omega) only [↓b_hid, bH_some, ↓hid_W, ↓W_ite, WI_t, WI_f, W_some, I3_a, I3_s, I3_m, I3_n, I3_l, I3_lt, I3_le, I3_e, I3_dv, I3_rm, I3_mx, I3_mn, I3_ab, cI, bI_0, bI_1, rZ_b, up_same, up_row, up_col, xr_some, LQ_r, LQ_l, Int.sub_self, Int.add_zero, Int.zero_add, Int.sub_zero, Int.neg_neg, not_true_eq_false, not_false_eq_true, Int.add_sub_cancel]; exact fin _ (by unfold plc; rw [if_pos (by omega)])
  · have : k = (f 6).toNat := by omega
    subst this
    simp (disch := first | assumption | omega) only [↓b_hid, bH_some, ↓hid_W, ↓W_ite, WI_t, WI_f, W_some, I3_a, I3_s, I3_m, I3_n, I3_l, I3_lt, I3_le, I3_e, I3_dv, I3_rm, I3_mx, I3_mn, I3_ab, cI, bI_0, bI_1, rZ_b, up_same, up_row, up_col, xr_some, LQ_r, LQ_l, Int.sub_self, Int.add_zero, Int.zero_add, Int.sub_zero, Int.neg_neg, not_true_eq_false, not_false_eq_true, Int.add_sub_cancel, f_X12_ordered_78, WI_pos, WI_neg]
theorem m_readsBits {q n tol a : Int} {d f : Int → Int} (hq : 0 ≤ q) (hq' : q < 6) (hf : Rw z q f) (hP : PV f) (h2 : f 0 ≠ 2) (hE : Ed z n d tol) (ha : 0 ≤ a) (ha' : a + 2 * f 6 ≤ n + 1) : WP (f_X12_readsBits 189 (I3 q) (I3 a) (M p z l)) (fun r => ∃ v, r = (I3 v, M p z l) ∧ (v = bvs (fun k => cif (mt (d (a + 2 * k)) (f 4) tol) 0 1) (f 6).toNat ∧ (∀ k, 0 ≤ k → k < f 6 → mt (d (a + 2 * k)) (f 4) tol ∨ mt (d (a + 2 * k)) (f 5) tol) ∨ v = -1 ∧ ¬∀ k, 0 ≤ k → k < f 6 → mt (d (a + 2 * k)) (f 4) tol ∨ mt (d (a + 2 * k)) (f 5) tol)) := by
  obtain ⟨p0, p1, p2, p3, p4, p5, p6, p7⟩ := hP
  have p4' : (50 ≤ f 4 ∧ f 4 ≤ 20000) ∧ (50 ≤ f 5 ∧ f 5 ≤ 20000) := by
    rcases p4 with h | h
    · exact absurd h.1 h2
    · exact h.2
  obtain ⟨⟨p4a, p4b⟩, p4c, p4d⟩ := p4'
  have h4 := hf 4 (by omega) (by omega)
  have h5 := hf 5 (by omega) (by omega)
  have h6 := hf 6 (by omega) (by omega)
  have hn := hE.2.1
  generalize hbdef : (fun k => cif (mt (d (a + 2 * k)) (f 4) tol) 0 1) = b
  have hbk : ∀ k, b k = cif (mt (d (a + 2 * k)) (f 4) tol) 0 1 := by intro k; rw [← hbdef]
  have hb : ∀ k : Nat, b k = 0 ∨ b k = 1 := by intro k; rw [hbk]; exact cif01 _
  unfold f_X12_readsBits f_X12_readsBits_5
  refine lp_W (fun m st => ∃ (k : Nat) (v : Int), st = (189, I3 q, I3 a, I3 v, I3 k, M p z l) ∧ (k : Int) ≤ f 6 ∧ m = (f 6).toNat - k ∧ (v = bvs b k ∧ (∀ i : Int, 0 ≤ i → i < k → mt (d (a + 2 * i)) (f 4) tol ∨ mt (d (a + 2 * i)) (f 5) tol) ∨ v = -1 ∧ ¬∀ k, 0 ≤ k → k < f 6 → mt (d (a + 2 * k)) (f 4) tol ∨ mt (d (a + 2 * k)) (f 5) tol)) (fun m st hs => ?_) ⟨0, 0, rfl, by omega, rfl, Or.inl ⟨rfl, by intro i a b; omega⟩⟩
  obtain ⟨k, v, rfl, hk, rfl, hv⟩ := hs
  have hr := bvs_r b hb k
  have hr16 := pw16 (n := k) (by omega)
  unfold f_X12_readsBits_5_b
  by_cases hk6 : (k : Int) < f 6
  · rcases hv with ⟨rfl, hv⟩ | ⟨rfl, hv⟩
    · have e1 := m_rd (p := p) (l := l) hE (show 0 ≤ a + 2 * k by omega) (by omega)
      have e2 := m_mat (p := p) (l := l) hE (show 0 ≤ a + 2 * k by omega) (by omega) (show 0 ≤ f 4 by omega) (by omega)
      have e3 := m_mat (p := p) (l := l) hE (show 0 ≤ a + 2 * k by omega) (by omega) (show 0 ≤ f 5 by omega) (by omega)
      have hext : (mt (d (a + 2 * k)) (f 4) tol ∨ mt (d (a + 2 * k)) (f 5) tol) → ∀ i, 0 ≤ i → i < ((k + 1 : Nat) : Int) → mt (d (a + 2 * i)) (f 4) tol ∨ mt (d (a + 2 * i)) (f 5) tol := by
        intro hx i i0 i1
        by_cases hi : i = k
        · subst hi; exact hx
        · exact hv i i0 (by omega)
      simp (disch := first | assumption | omega) only [↓b_hid, bH_some, ↓hid_W, ↓W_ite, WI_t, WI_f, W_some, I3_a, I3_s, I3_m, I3_n, I3_l, I3_lt, I3_le, I3_e, I3_dv, I3_rm, I3_mx, I3_mn, I3_ab, cI, bI_0, bI_1, rZ_b, up_same, up_row, up_col, xr_some, LQ_r, LQ_l, Int.sub_self, Int.add_zero, Int.zero_add, Int.sub_zero, Int.neg_neg, not_true_eq_false, not_false_eq_true, Int.add_sub_cancel, gI_189, pI_189, iO_189, gR_189_0, aI_190, sI_190, gR_189_1, aI_191, sI_191, gR_189_3, aI_192, gR_189_10, aI_193, sI_193, gR_189_11, aI_194, sI_194, gR_189_13, aI_195, sI_195, gR_189_15, aI_196, sI_196, gR_189_17, aI_197, sI_197, gR_189_18, aI_198, sI_198, gR_189_19, aI_199, sI_199, gR_189_20, aI_200, sI_200, gR_189_23, aI_201, gR_189_24, aI_202, sI_202, gR_189_25, aI_203, sI_203, gR_189_29, aI_204, sI_204, gR_189_32, aI_205, sI_205, gR_189_35, aI_206, sI_206, pZ_189, gL_189, pL_189, m_at, h6, e1, h4, e2, WI_pos, WI_neg]
      refine WI_i (fun h => ?_) (fun h => ?_)
      · simp (disch := first | assumption | omega) only [↓b_hid, bH_some, ↓hid_W, ↓W_ite, WI_t, WI_f, W_some, I3_a, I3_s, I3_m, I3_n, I3_l, I3_lt, I3_le, I3_e, I3_dv, I3_rm, I3_mx, I3_mn, I3_ab, cI, bI_0, bI_1, rZ_b, up_same, up_row, up_col, xr_some, LQ_r, LQ_l, Int.sub_self, Int.add_zero, Int.zero_add, Int.sub_zero, Int.neg_neg, not_true_eq_false, not_false_eq_true, Int.add_sub_cancel, gI_189, pI_189, iO_189, gR_189_0, aI_190, sI_190, gR_189_1, aI_191, sI_191, gR_189_3, aI_192, gR_189_10, aI_193, sI_193, gR_189_11, aI_194, sI_194, gR_189_13, aI_195, sI_195, gR_189_15, aI_196, sI_196, gR_189_17, aI_197, sI_197, gR_189_18, aI_198, sI_198, gR_189_19, aI_199, sI_199, gR_189_20, aI_200, sI_200, gR_189_23, aI_201, gR_189_24, aI_202, sI_202, gR_189_25, aI_203, sI_203, gR_189_29, aI_204, sI_204, gR_189_32, aI_205, sI_205, gR_189_35, aI_206, sI_206, pZ_189, gL_189, pL_189, m_at, h5, e3]
        refine WI_i (fun h' => ?_) (fun h' => ?_)
        · simp (disch := first | assumption | omega) only [↓b_hid, bH_some, ↓hid_W, ↓W_ite, WI_t, WI_f, W_some, I3_a, I3_s, I3_m, I3_n, I3_l, I3_lt, I3_le, I3_e, I3_dv, I3_rm, I3_mx, I3_mn, I3_ab, cI, bI_0, bI_1, rZ_b, up_same, up_row, up_col, xr_some, LQ_r, LQ_l, Int.sub_self, Int.add_zero, Int.zero_add, Int.sub_zero, Int.neg_neg, not_true_eq_false, not_false_eq_true, Int.add_sub_cancel, f_X12_readsBits_98]
          refine ⟨_, ?_, k + 1, -1, by rw [Int.natCast_add]; rfl, by omega, rfl, Or.inr ⟨rfl, fun hx => ?_⟩⟩
          · omega
          · rcases hx k (by omega) hk6 with hx | hx
            · exact h hx
            · exact h' hx
        · simp (disch := first | assumption | omega) only [↓b_hid, bH_some, ↓hid_W, ↓W_ite, WI_t, WI_f, W_some, I3_a, I3_s, I3_m, I3_n, I3_l, I3_lt, I3_le, I3_e, I3_dv, I3_rm, I3_mx, I3_mn, I3_ab, cI, bI_0, bI_1, rZ_b, up_same, up_row, up_col, xr_some, LQ_r, LQ_l, Int.sub_self, Int.add_zero, Int.zero_add, Int.sub_zero, Int.neg_neg, not_true_eq_false, not_false_eq_true, Int.add_sub_cancel, f_X12_readsBits_98]
          refine ⟨_, ?_, k + 1, 2 * bvs b k + 1, by rw [Int.natCast_add]; rfl, by omega, rfl, Or.inl ⟨?_, hext (Or.inr (Classical.byContradiction h'))⟩⟩
          · omega
          · rw [bvs, hbk, cif_f h]
      · simp (disch := first | assumption | omega) only [↓b_hid, bH_some, ↓hid_W, ↓W_ite, WI_t, WI_f, W_some, I3_a, I3_s, I3_m, I3_n, I3_l, I3_lt, I3_le, I3_e, I3_dv, I3_rm, I3_mx, I3_mn, I3_ab, cI, bI_0, bI_1, rZ_b, up_same, up_row, up_col, xr_some, LQ_r, LQ_l, Int.sub_self, Int.add_zero, Int.zero_add, Int.sub_zero, Int.neg_neg, not_true_eq_false, not_false_eq_true, Int.add_sub_cancel, f_X12_readsBits_98]
        refine ⟨_, ?_, k + 1, 2 * bvs b k, by rw [Int.natCast_add]; rfl, by omega, rfl, Or.inl ⟨?_, hext (Or.inl (Classical.byContradiction h))⟩⟩
        · omega
        · rw [bvs, hbk, cif_t (Classical.byContradiction h), Int.add_zero]
    · simp (disch := first | assumption | omega) only [↓b_hid, bH_some, ↓hid_W, ↓W_ite, WI_t, WI_f, W_some, I3_a, I3_s, I3_m, I3_n, I3_l, I3_lt, I3_le, I3_e, I3_dv, I3_rm, I3_mx, I3_mn, I3_ab, cI, bI_0, bI_1, rZ_b, up_same, up_row, up_col, xr_some, LQ_r, LQ_l, Int.sub_self, Int.add_zero, Int.zero_add, Int.sub_zero, Int.neg_neg, not_true_eq_false, not_false_eq_true, Int.add_sub_cancel, gI_189, pI_189, iO_189, gR_189_0, aI_190, sI_190, gR_189_1, aI_191, sI_191, gR_189_3, aI_192, gR_189_10, aI_193, sI_193, gR_189_11, aI_194, sI_194, gR_189_13, aI_195, sI_195, gR_189_15, aI_196, sI_196, gR_189_17, aI_197, sI_197, gR_189_18, aI_198, sI_198, gR_189_19, aI_199, sI_199, gR_189_20, aI_200, sI_200, gR_189_23, aI_201, gR_189_24, aI_202, sI_202, gR_189_25, aI_203, sI_203, gR_189_29, aI_204, sI_204, gR_189_32, aI_205, sI_205, gR_189_35, aI_206, sI_206, pZ_189, gL_189, pL_189, m_at, h6, f_X12_readsBits_105, WI_pos, WI_neg]
      exact ⟨-1, rfl, Or.inr ⟨rfl, hv⟩⟩
  · simp (disch := first | assumption | omega) only [↓b_hid, bH_some, ↓hid_W, ↓W_ite, WI_t, WI_f, W_some, I3_a, I3_s, I3_m, I3_n, I3_l, I3_lt, I3_le, I3_e, I3_dv, I3_rm, I3_mx, I3_mn, I3_ab, cI, bI_0, bI_1, rZ_b, up_same, up_row, up_col, xr_some, LQ_r, LQ_l, Int.sub_self, Int.add_zero, Int.zero_add, Int.sub_zero, Int.neg_neg, not_true_eq_false, not_false_eq_true, Int.add_sub_cancel, gI_189, pI_189, iO_189, gR_189_0, aI_190, sI_190, gR_189_1, aI_191, sI_191, gR_189_3, aI_192, gR_189_10, aI_193, sI_193, gR_189_11, aI_194, sI_194, gR_189_13, aI_195, sI_195, gR_189_15, aI_196, sI_196, gR_189_17, aI_197, sI_197, gR_189_18, aI_198, sI_198, gR_189_19, aI_199, sI_199, gR_189_20, aI_200, sI_200, gR_189_23, aI_201, gR_189_24, aI_202, sI_202, gR_189_25, aI_203, sI_203, gR_189_29, aI_204, sI_204, gR_189_32, aI_205, sI_205, gR_189_35, aI_206, sI_206, pZ_189, gL_189, pL_189, m_at, h6, f_X12_readsBits_105, WI_pos, WI_neg]
    refine ⟨v, rfl, ?_⟩
    rcases hv with ⟨h1, hv⟩ | h
    · refine Or.inl ⟨by rw [h1, show k = (f 6).toNat by omega], fun i i0 i1 => hv i i0 (by omega)⟩
    · exact Or.inr h
end
