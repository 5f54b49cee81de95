/-! Clusters: the model; clusters(). -/
section
variable {p : Nat → Nat} {z l : Nat → Int → Int}
def Sm (z : Nat → Int → Int) (x : Dn) : Prop := z 189 33 = x.1 ∧ ∀ i, 0 ≤ i → i < x.1 → z 205 i = x.2 i
def FrG (z z' : Nat → Int → Int) : Prop := (∀ k, k ≠ 189 → k ≠ 205 → k ≠ 206 → z' k = z k) ∧ ∀ j, j ≠ 33 → j ≠ 34 → z' 189 j = z 189 j
theorem FrG_r (z : Nat → Int → Int) : FrG z z := ⟨fun _ _ _ _ => rfl, fun _ _ _ => rfl⟩
theorem FrG_t {z z' z'' : Nat → Int → Int} (h : FrG z z') (h' : FrG z' z'') : FrG z z'' := ⟨fun k h1 h2 h3 => (h'.1 k h1 h2 h3).trans (h.1 k h1 h2 h3), fun j hj hk => (h'.2 j hj hk).trans (h.2 j hj hk)⟩
theorem FrG_up {z0 : Nat → Int → Int} {k : Nat} {i v : Int} (hk : k = 205 ∨ k = 206 ∨ k = 189 ∧ (i = 33 ∨ i = 34)) (h : FrG z0 z) : FrG z0 (up z k i v) := by
  refine ⟨fun c c0 c1 c2 => ?_, fun j hj hj' => ?_⟩
  · rw [up_row (by omega)]; exact h.1 c c0 c1 c2
  · rcases hk with rfl | rfl | ⟨rfl, hk⟩
    · rw [up_row (by decide)]; exact h.2 j hj hj'
    · rw [up_row (by decide)]; exact h.2 j hj hj'
    · rw [up_col (by omega)]; exact h.2 j hj hj'
theorem FrQ_G {z z' : Nat → Int → Int} (h : FrG z z') : FrQ z z' := ⟨fun k hk => h.1 k (by omega) (by omega) (by omega), h.1 190 (by decide) (by decide) (by decide), h.1 191 (by decide) (by decide) (by decide), h.1 192 (by decide) (by decide) (by decide), fun j hj => h.2 j (by omega) (by omega)⟩
set_option maxHeartbeats 4000000 in
theorem m_ins65 {side f k v : Int} {x : Dn} (hx : Sm z x) (hD : Dr x) (hv : 0 ≤ v) (hv' : v ≤ 60000) (h1 : x.1 < 200) {Q : (Nat × Int32 × Int32 × Int32 × MS) ⊕ ((Nat × Int32 × Int32 × MS) ⊕ MS) → Prop} (hQ : ∀ z', Sm z' (ins v x) → FrG z z' → Q (.inl (189, I3 side, I3 f, I3 (k + 2), M p z' l))) : WP (f_X12_findsClusters_65 189 (I3 side) (I3 f) (I3 k) (I3 v) (I3 x.1) (M p z l)) Q := by
  obtain ⟨e1, hd⟩ := hx
  obtain ⟨h0, hr⟩ := hD
  generalize hn : x.1.toNat = n
  have hn' : x.1 = (n : Int) := by omega
  rw [hn']
  unfold f_X12_findsClusters_65
  refine lp_W (fun m st => ∃ (e : Nat) (z' : Nat → Int → Int), st = (189, I3 side, I3 f, I3 k, I3 v, I3 e, M p z' l) ∧ e ≤ n ∧ m = e + 1 ∧ (∀ k, k ≠ 205 → z' k = z k) ∧ pl x.2 v n = pl x.2 v e ∧ (∀ i, 0 ≤ i → i < (e : Int) → z' 205 i = x.2 i) ∧ ∀ i, (e : Int) < i → i ≤ (n : Int) → z' 205 i = x.2 (i - 1)) (fun m st hst => ?_) ⟨n, z, rfl, by omega, rfl, fun _ _ => rfl, rfl, fun i i0 i1 => hd i i0 (by omega), fun i i0 i1 => by omega⟩
  obtain ⟨e, z', rfl, he, rfl, hF, hp, ha, hb⟩ := hst
  have hG : FrG z z' := ⟨fun c _ c1 _ => hF c c1, fun j _ _ => by rw [hF 189 (by decide)]⟩
  have e1' : z' 189 33 = n := by rw [hF 189 (by decide), e1]; exact hn'
  have fin : pl x.2 v e = e → WP (f_X12_findsClusters_106 189 (I3 side) (I3 f) (I3 k) (I3 v) (I3 e) (M p z' l)) Q := by
    intro hpe
    unfold f_X12_findsClusters_106
    simp (disch := first | assumption | omega) only [↓b_hid, bH_some, ↓hid_W, W_some, I3_a, I3_s, I3_m, I3_n, I3_l, I3_lt, I3_le, I3_e, I3_dv, I3_rm, I3_mx, I3_mn, I3_ab, cI, bI_0, bI_1, rZ_b, up_same, up_row, up_col, xr_some, LQ_r, LQ_l, Int.sub_self, Int.add_zero, Int.zero_add, Int.sub_zero, Int.neg_neg, not_true_eq_false, not_false_eq_true, Int.add_sub_cancel, ↓ite_iH, iH_t, iH_f, bH_iH, ↓bH_bind, xr_iH, ↓xr_bind, W_iH, WI_t, WI_f, gI_189, pI_189, iO_189, gR_189_0, aI_190, sI_190, gR_189_1, aI_191, sI_191, gR_189_3, aI_192, gR_189_10, aI_193, sI_193, gR_189_11, aI_194, sI_194, gR_189_13, aI_195, sI_195, gR_189_15, aI_196, sI_196, gR_189_17, aI_197, sI_197, gR_189_18, aI_198, sI_198, gR_189_19, aI_199, sI_199, gR_189_20, aI_200, sI_200, gR_189_23, aI_201, gR_189_24, aI_202, sI_202, gR_189_25, aI_203, sI_203, gR_189_29, aI_204, sI_204, gR_189_32, aI_205, sI_205, gR_189_35, aI_206, sI_206, pZ_189, gL_189, pL_189, e1']
    refine hQ _ ⟨?_, fun i i0 i1 => ?_⟩ (FrG_up (Or.inr (Or.inr ⟨rfl, Or.inl rfl⟩)) (FrG_up (Or.inl rfl) hG))
    · rw [up_same]; unfold ins; simp only; omega
    · unfold ins at i1 ⊢
      simp only at i1 ⊢
      rw [hn, hp, hpe, up_row (by omega)]
      by_cases hi : i < e
      · rw [if_pos hi, up_col (by omega)]; exact ha i i0 hi
      · rw [if_neg hi]
        by_cases hi2 : i = e
        · rw [if_pos hi2, hi2, up_same]
        · rw [if_neg hi2, up_col hi2]; exact hb i (by omega) (by omega)
  unfold f_X12_findsClusters_65_b
  by_cases he0 : e = 0
  · subst he0
    have := fin rfl
    simp (disch := first | assumption | omega) only [↓b_hid, bH_some, ↓hid_W, W_some, I3_a, I3_s, I3_m, I3_n, I3_l, I3_lt, I3_le, I3_e, I3_dv, I3_rm, I3_mx, I3_mn, I3_ab, cI, bI_0, bI_1, rZ_b, up_same, up_row, up_col, xr_some, LQ_r, LQ_l, Int.sub_self, Int.add_zero, Int.zero_add, Int.sub_zero, Int.neg_neg, not_true_eq_false, not_false_eq_true, Int.add_sub_cancel, ↓ite_iH, iH_t, iH_f, bH_iH, ↓bH_bind, xr_iH, ↓xr_bind, W_iH, WI_t, WI_f, iH_pos, iH_neg, WI_pos, WI_neg]
    refine W_xr ?_
    simp only [LQ_r]
    exact this
  · obtain ⟨k', rfl⟩ : ∃ k, e = k + 1 := ⟨e - 1, by omega⟩
    have ek : ((k' + 1 : Nat) : Int) - 1 = k' := by omega
    have er : z' 205 k' = x.2 k' := ha k' (by omega) (by omega)
    have hrk := hr k' (by omega) (by omega)
    by_cases hvk : v < x.2 k'
    · have ek2 : ((k' + 1 : Nat) : Int) + -1 = k' := by omega
      simp (disch := first | assumption | omega) only [↓b_hid, bH_some, ↓hid_W, W_some, I3_a, I3_s, I3_m, I3_n, I3_l, I3_lt, I3_le, I3_e, I3_dv, I3_rm, I3_mx, I3_mn, I3_ab, cI, bI_0, bI_1, rZ_b, up_same, up_row, up_col, xr_some, LQ_r, LQ_l, Int.sub_self, Int.add_zero, Int.zero_add, Int.sub_zero, Int.neg_neg, not_true_eq_false, not_false_eq_true, Int.add_sub_cancel, ↓ite_iH, iH_t, iH_f, bH_iH, ↓bH_bind, xr_iH, ↓xr_bind, W_iH, WI_t, WI_f, gI_189, pI_189, iO_189, gR_189_0, aI_190, sI_190, gR_189_1, aI_191, sI_191, gR_189_3, aI_192, gR_189_10, aI_193, sI_193, gR_189_11, aI_194, sI_194, gR_189_13, aI_195, sI_195, gR_189_15, aI_196, sI_196, gR_189_17, aI_197, sI_197, gR_189_18, aI_198, sI_198, gR_189_19, aI_199, sI_199, gR_189_20, aI_200, sI_200, gR_189_23, aI_201, gR_189_24, aI_202, sI_202, gR_189_25, aI_203, sI_203, gR_189_29, aI_204, sI_204, gR_189_32, aI_205, sI_205, gR_189_35, aI_206, sI_206, pZ_189, gL_189, pL_189, ek, er, ek2, iH_pos, iH_neg, WI_pos, WI_neg]
      refine ⟨k' + 1, by omega, k', _, rfl, by omega, rfl, fun c' hc' => by rw [up_row hc']; exact hF c' hc', ?_, fun i i0 i1 => ?_, fun i i0 i1 => ?_⟩
      · rw [hp, pl, if_pos hvk]
      · rw [up_col (by omega)]; exact ha i i0 (by omega)
      · by_cases hi : i = ((k' + 1 : Nat) : Int)
        · rw [hi, up_same, ek]
        · rw [up_col hi]; exact hb i (by omega) i1
    · have := fin (by rw [pl, if_neg hvk])
      simp (disch := first | assumption | omega) only [↓b_hid, bH_some, ↓hid_W, W_some, I3_a, I3_s, I3_m, I3_n, I3_l, I3_lt, I3_le, I3_e, I3_dv, I3_rm, I3_mx, I3_mn, I3_ab, cI, bI_0, bI_1, rZ_b, up_same, up_row, up_col, xr_some, LQ_r, LQ_l, Int.sub_self, Int.add_zero, Int.zero_add, Int.sub_zero, Int.neg_neg, not_true_eq_false, not_false_eq_true, Int.add_sub_cancel, ↓ite_iH, iH_t, iH_f, bH_iH, ↓bH_bind, xr_iH, ↓xr_bind, W_iH, WI_t, WI_f, gI_189, pI_189, iO_189, gR_189_0, aI_190, sI_190, gR_189_1, aI_191, sI_191, gR_189_3, aI_192, gR_189_10, aI_193, sI_193, gR_189_11, aI_194, sI_194, gR_189_13, aI_195, sI_195, gR_189_15, aI_196, sI_196, gR_189_17, aI_197, sI_197, gR_189_18, aI_198, sI_198, gR_189_19, aI_199, sI_199, gR_189_20, aI_200, sI_200, gR_189_23, aI_201, gR_189_24, aI_202, sI_202, gR_189_25, aI_203, sI_203, gR_189_29, aI_204, sI_204, gR_189_32, aI_205, sI_205, gR_189_35, aI_206, sI_206, pZ_189, gL_189, pL_189, ek, er, iH_pos, iH_neg, WI_pos, WI_neg]
      refine W_xr ?_
      simp only [LQ_r]
      exact this
/-- the means of the model -/
def Mn (z : Nat → Int → Int) (L : List Int) : Prop := z 189 34 = L.length ∧ ∀ i, 0 ≤ i → i < (L.length : Int) → z 206 i = lf L i
set_option maxHeartbeats 4000000 in
theorem m_cut {x : Dn} (hx : Sm z x) (hD : Dr x) (h2 : x.1 ≤ 200) : WP (f_X12_findsClusters_137 189 (M p z l)) (fun μ => ∃ z', μ = M p z' l ∧ Mn z' (cmeans x) ∧ FrG z z') := by
  have hx0 := hD.1
  unfold f_X12_findsClusters_137
  simp (disch := first | assumption | omega) only [↓b_hid, bH_some, ↓hid_W, W_some, I3_a, I3_s, I3_m, I3_n, I3_l, I3_lt, I3_le, I3_e, I3_dv, I3_rm, I3_mx, I3_mn, I3_ab, cI, bI_0, bI_1, rZ_b, up_same, up_row, up_col, xr_some, LQ_r, LQ_l, Int.sub_self, Int.add_zero, Int.zero_add, Int.sub_zero, Int.neg_neg, not_true_eq_false, not_false_eq_true, Int.add_sub_cancel, ↓ite_iH, iH_t, iH_f, bH_iH, ↓bH_bind, xr_iH, ↓xr_bind, W_iH, WI_t, WI_f, gI_189, pI_189, iO_189, gR_189_0, aI_190, sI_190, gR_189_1, aI_191, sI_191, gR_189_3, aI_192, gR_189_10, aI_193, sI_193, gR_189_11, aI_194, sI_194, gR_189_13, aI_195, sI_195, gR_189_15, aI_196, sI_196, gR_189_17, aI_197, sI_197, gR_189_18, aI_198, sI_198, gR_189_19, aI_199, sI_199, gR_189_20, aI_200, sI_200, gR_189_23, aI_201, gR_189_24, aI_202, sI_202, gR_189_25, aI_203, sI_203, gR_189_29, aI_204, sI_204, gR_189_32, aI_205, sI_205, gR_189_35, aI_206, sI_206, pZ_189, gL_189, pL_189]
  generalize hn : x.1.toNat = n
  have hn' : x.1 = (n : Int) := by omega
  have hcm : cmeans x = (ckS x.2 n n).2 := by unfold cmeans; rw [hn, hn']
  rw [hcm]
  unfold f_X12_findsClusters_149
  refine lp_W (fun m st => ∃ (k : Nat) (z' : Nat → Int → Int), st = (189, I3 (sm x.2 k - sm x.2 (ckS x.2 n k).1), I3 (ckS x.2 n k).1, I3 k, M p z' l) ∧ k ≤ n ∧ m = n - k ∧ FrG z z' ∧ z' 205 = z 205 ∧ z' 189 33 = n ∧ Mn z' (ckS x.2 n k).2) (fun m st hst => ?_) ⟨0, _, rfl, by omega, rfl, FrG_up (Or.inr (Or.inr ⟨rfl, Or.inr rfl⟩)) (FrG_r z), up_row (by decide) _ _ _, by rw [up_col (by decide), hx.1]; exact hn', ⟨up_same _ _ _ _, fun i i0 i1 => by simp [ckS] at i1; omega⟩⟩
  obtain ⟨k, z', rfl, hk, rfl, hF, e205, e1, hC⟩ := hst
  have hr := ckS_r x.2 n k
  have hf : ∀ i : Nat, i < n → 0 ≤ x.2 i ∧ x.2 i ≤ 60000 := fun i hi => hD.2 i (by omega) (by omega)
  have e34 : z' 189 34 = (ckS x.2 n k).2.length := hC.1
  have sr := sm_r (f := x.2) (a := (ckS x.2 n k).1) k hr.1 (fun i hi => hf i (by omega))
  unfold f_X12_findsClusters_149_b
  by_cases hkn : k < n
  · have er0 : z' 205 k = x.2 k := by rw [e205]; exact hx.2 k (by omega) (by omega)
    have r0 := hD.2 k (by omega) (by omega)
    have es : sm x.2 k - sm x.2 (ckS x.2 n k).1 + x.2 k = sm x.2 (k + 1) - sm x.2 (ckS x.2 n k).1 := by rw [sm]; omega
    have hgo : (k : Int) + 1 = n ∨ 3 * x.2 k < 2 * x.2 (k + 1) → WP (f_X12_findsClusters_202 189 (I3 (sm x.2 (k + 1) - sm x.2 (ckS x.2 n k).1)) (I3 (ckS x.2 n k).1) (I3 k) (M p z' l)) (LQ (fun μ => ∃ z', μ = M p z' l ∧ Mn z' (ckS x.2 n n).2 ∧ FrG z z') (fun m st => ∃ (k : Nat) (z' : Nat → Int → Int), st = (189, I3 (sm x.2 k - sm x.2 (ckS x.2 n k).1), I3 (ckS x.2 n k).1, I3 k, M p z' l) ∧ k ≤ n ∧ m = n - k ∧ FrG z z' ∧ z' 205 = z 205 ∧ z' 189 33 = n ∧ Mn z' (ckS x.2 n k).2) (n - k)) := by
      intro hcut
      have hs : ckS x.2 n (k + 1) = (k + 1, (ckS x.2 n k).2 ++ [(sm x.2 (k + 1) - sm x.2 (ckS x.2 n k).1) / ((k : Int) + 1 - (ckS x.2 n k).1)]) := by rw [ckS, if_pos hcut]
      unfold f_X12_findsClusters_202
      simp (disch := first | assumption | omega) only [↓b_hid, bH_some, ↓hid_W, W_some, I3_a, I3_s, I3_m, I3_n, I3_l, I3_lt, I3_le, I3_e, I3_dv, I3_rm, I3_mx, I3_mn, I3_ab, cI, bI_0, bI_1, rZ_b, up_same, up_row, up_col, xr_some, LQ_r, LQ_l, Int.sub_self, Int.add_zero, Int.zero_add, Int.sub_zero, Int.neg_neg, not_true_eq_false, not_false_eq_true, Int.add_sub_cancel, ↓ite_iH, iH_t, iH_f, bH_iH, ↓bH_bind, xr_iH, ↓xr_bind, W_iH, WI_t, WI_f, gI_189, pI_189, iO_189, gR_189_0, aI_190, sI_190, gR_189_1, aI_191, sI_191, gR_189_3, aI_192, gR_189_10, aI_193, sI_193, gR_189_11, aI_194, sI_194, gR_189_13, aI_195, sI_195, gR_189_15, aI_196, sI_196, gR_189_17, aI_197, sI_197, gR_189_18, aI_198, sI_198, gR_189_19, aI_199, sI_199, gR_189_20, aI_200, sI_200, gR_189_23, aI_201, gR_189_24, aI_202, sI_202, gR_189_25, aI_203, sI_203, gR_189_29, aI_204, sI_204, gR_189_32, aI_205, sI_205, gR_189_35, aI_206, sI_206, pZ_189, gL_189, pL_189, e34, f_X12_findsClusters_236]
      generalize hz2 : up (up z' 206 (ckS x.2 n k).2.length ((sm x.2 (k + 1) - sm x.2 (ckS x.2 n k).1) / ((k : Int) + 1 - (ckS x.2 n k).1))) 189 34 ((ckS x.2 n k).2.length + 1) = z2
      refine ⟨_, ?_, k + 1, z2, ?_, by omega, rfl, ?_, ?_, ?_, ?_⟩
      · omega
      · rw [hs, Int.sub_self, Int.natCast_add]; rfl
      · rw [← hz2]; exact FrG_up (Or.inr (Or.inr ⟨rfl, Or.inr rfl⟩)) (FrG_up (Or.inr (Or.inl rfl)) hF)
      · rw [← hz2, up_row (by decide), up_row (by decide)]; exact e205
      · rw [← hz2, up_col (by decide), up_row (by decide)]; exact e1
      · rw [hs, ← hz2]
        have hl : ((ckS x.2 n k).2 ++ [(sm x.2 (k + 1) - sm x.2 (ckS x.2 n k).1) / ((k : Int) + 1 - (ckS x.2 n k).1)]).length = (ckS x.2 n k).2.length + 1 := by simp
        refine ⟨by rw [up_same, hl]; rfl, fun i i0 i1 => ?_⟩
        simp only [hl] at i1
        rw [lf_app i0, up_row (by decide)]
        by_cases hi : i < (ckS x.2 n k).2.length
        · rw [if_pos hi, up_col (by omega)]; exact hC.2 i i0 hi
        · have : i = (ckS x.2 n k).2.length := by omega
          rw [if_neg hi, if_pos this, this, up_same]
    by_cases hlast : (k : Int) + 1 = n
    · have := hgo (Or.inl hlast)
      simp (disch := first | assumption | omega) only [↓b_hid, bH_some, ↓hid_W, W_some, I3_a, I3_s, I3_m, I3_n, I3_l, I3_lt, I3_le, I3_e, I3_dv, I3_rm, I3_mx, I3_mn, I3_ab, cI, bI_0, bI_1, rZ_b, up_same, up_row, up_col, xr_some, LQ_r, LQ_l, Int.sub_self, Int.add_zero, Int.zero_add, Int.sub_zero, Int.neg_neg, not_true_eq_false, not_false_eq_true, Int.add_sub_cancel, ↓ite_iH, iH_t, iH_f, bH_iH, ↓bH_bind, xr_iH, ↓xr_bind, W_iH, WI_t, WI_f, gI_189, pI_189, iO_189, gR_189_0, aI_190, sI_190, gR_189_1, aI_191, sI_191, gR_189_3, aI_192, gR_189_10, aI_193, sI_193, gR_189_11, aI_194, sI_194, gR_189_13, aI_195, sI_195, gR_189_15, aI_196, sI_196, gR_189_17, aI_197, sI_197, gR_189_18, aI_198, sI_198, gR_189_19, aI_199, sI_199, gR_189_20, aI_200, sI_200, gR_189_23, aI_201, gR_189_24, aI_202, sI_202, gR_189_25, aI_203, sI_203, gR_189_29, aI_204, sI_204, gR_189_32, aI_205, sI_205, gR_189_35, aI_206, sI_206, pZ_189, gL_189, pL_189, e1, er0, es, iH_pos, iH_neg, WI_pos, WI_neg]
      exact this
    · have er1 : z' 205 ((k : Int) + 1) = x.2 (k + 1) := by rw [e205]; exact hx.2 _ (by omega) (by omega)
      have r1 := hD.2 ((k : Int) + 1) (by omega) (by omega)
      by_cases hcut : 3 * x.2 k < 2 * x.2 (k + 1)
      · have := hgo (Or.inr hcut)
        simp (disch := first | assumption | omega) only [↓b_hid, bH_some, ↓hid_W, W_some, I3_a, I3_s, I3_m, I3_n, I3_l, I3_lt, I3_le, I3_e, I3_dv, I3_rm, I3_mx, I3_mn, I3_ab, cI, bI_0, bI_1, rZ_b, up_same, up_row, up_col, xr_some, LQ_r, LQ_l, Int.sub_self, Int.add_zero, Int.zero_add, Int.sub_zero, Int.neg_neg, not_true_eq_false, not_false_eq_true, Int.add_sub_cancel, ↓ite_iH, iH_t, iH_f, bH_iH, ↓bH_bind, xr_iH, ↓xr_bind, W_iH, WI_t, WI_f, gI_189, pI_189, iO_189, gR_189_0, aI_190, sI_190, gR_189_1, aI_191, sI_191, gR_189_3, aI_192, gR_189_10, aI_193, sI_193, gR_189_11, aI_194, sI_194, gR_189_13, aI_195, sI_195, gR_189_15, aI_196, sI_196, gR_189_17, aI_197, sI_197, gR_189_18, aI_198, sI_198, gR_189_19, aI_199, sI_199, gR_189_20, aI_200, sI_200, gR_189_23, aI_201, gR_189_24, aI_202, sI_202, gR_189_25, aI_203, sI_203, gR_189_29, aI_204, sI_204, gR_189_32, aI_205, sI_205, gR_189_35, aI_206, sI_206, pZ_189, gL_189, pL_189, e1, er0, er1, es, iH_pos, iH_neg, WI_pos, WI_neg]
        exact this
      · simp (disch := first | assumption | omega) only [↓b_hid, bH_some, ↓hid_W, W_some, I3_a, I3_s, I3_m, I3_n, I3_l, I3_lt, I3_le, I3_e, I3_dv, I3_rm, I3_mx, I3_mn, I3_ab, cI, bI_0, bI_1, rZ_b, up_same, up_row, up_col, xr_some, LQ_r, LQ_l, Int.sub_self, Int.add_zero, Int.zero_add, Int.sub_zero, Int.neg_neg, not_true_eq_false, not_false_eq_true, Int.add_sub_cancel, ↓ite_iH, iH_t, iH_f, bH_iH, ↓bH_bind, xr_iH, ↓xr_bind, W_iH, WI_t, WI_f, gI_189, pI_189, iO_189, gR_189_0, aI_190, sI_190, gR_189_1, aI_191, sI_191, gR_189_3, aI_192, gR_189_10, aI_193, sI_193, gR_189_11, aI_194, sI_194, gR_189_13, aI_195, sI_195, gR_189_15, aI_196, sI_196, gR_189_17, aI_197, sI_197, gR_189_18, aI_198, sI_198, gR_189_19, aI_199, sI_199, gR_189_20, aI_200, sI_200, gR_189_23, aI_201, gR_189_24, aI_202, sI_202, gR_189_25, aI_203, sI_203, gR_189_29, aI_204, sI_204, gR_189_32, aI_205, sI_205, gR_189_35, aI_206, sI_206, pZ_189, gL_189, pL_189, e1, er0, er1, es, f_X12_findsClusters_236, iH_pos, iH_neg, WI_pos, WI_neg]
        have hs : ckS x.2 n (k + 1) = ckS x.2 n k := by rw [ckS, if_neg (by omega)]
        refine ⟨_, ?_, k + 1, z', by rw [hs, Int.natCast_add]; rfl, by omega, rfl, hF, e205, e1, ?_⟩
        · omega
        · rw [hs]; exact hC
  · have : k = n := by omega
    subst this
    simp (disch := first | assumption | omega) only [↓b_hid, bH_some, ↓hid_W, W_some, I3_a, I3_s, I3_m, I3_n, I3_l, I3_lt, I3_le, I3_e, I3_dv, I3_rm, I3_mx, I3_mn, I3_ab, cI, bI_0, bI_1, rZ_b, up_same, up_row, up_col, xr_some, LQ_r, LQ_l, Int.sub_self, Int.add_zero, Int.zero_add, Int.sub_zero, Int.neg_neg, not_true_eq_false, not_false_eq_true, Int.add_sub_cancel, ↓ite_iH, iH_t, iH_f, bH_iH, ↓bH_bind, xr_iH, ↓xr_bind, W_iH, WI_t, WI_f, gI_189, pI_189, iO_189, gR_189_0, aI_190, sI_190, gR_189_1, aI_191, sI_191, gR_189_3, aI_192, gR_189_10, aI_193, sI_193, gR_189_11, aI_194, sI_194, gR_189_13, aI_195, sI_195, gR_189_15, aI_196, sI_196, gR_189_17, aI_197, sI_197, gR_189_18, aI_198, sI_198, gR_189_19, aI_199, sI_199, gR_189_20, aI_200, sI_200, gR_189_23, aI_201, gR_189_24, aI_202, sI_202, gR_189_25, aI_203, sI_203, gR_189_29, aI_204, sI_204, gR_189_32, aI_205, sI_205, gR_189_35, aI_206, sI_206, pZ_189, gL_189, pL_189, e1, f_X12_findsClusters_242, iH_pos, iH_neg, WI_pos, WI_neg]
    exact ⟨z', rfl, hC, hF⟩
theorem insR_odd {e : Int → Int} {x : Dn} {m t : Nat} {side : Int} (hm : m % 2 = 1) (ht : (t : Int) % 2 = side) (h1 : m ≤ t + 2) (h2 : t + 1 ≤ m) (h0 : 2 ≤ m) : insR e side t x = insR e side (m - 2) x := by
  by_cases h : t = m - 2
  · rw [h]
  · obtain ⟨k, rfl⟩ : ∃ k, m = k + 2 := ⟨m - 2, by omega⟩
    have hk : t = k + 1 := by omega
    subst hk
    rw [insR, if_neg (by omega)]; rfl
set_option maxHeartbeats 4000000 in
theorem m_findsC {n gap tol : Int} {d : Int → Int} {side : Nat} (hL : FLm z (FS d n gap)) (hE : Ed z n d tol) (h0 : 0 < n) (h1 : n ≤ 200) (hd : ∀ i, 0 ≤ i → i < n → 1 ≤ d i ∧ d i ≤ 60000) (h5 : 5 ≤ (gl (FS d n gap) 0).2) (hs : side < 2) : WP (f_X12_findsClusters 189 (I3 side) (M p z l)) (fun μ => ∃ z', μ = M p z' l ∧ Mn z' (cmeans (insA d (FS d n gap) side (FS d n gap).length)) ∧ FrG z z') := by
  have hpos := FS_pos (d := d) (gap := gap) h0 h1
  have hlen := FS_len (d := d) (gap := gap) (show 0 ≤ n by omega) h1
  have hrA := fun i hi => insA_r (d := d) (gap := gap) (show 0 ≤ n by omega) hd h5 side i hi
  have g0 := FS_g (show 0 ≤ n by omega) hpos
  unfold fsG at g0
  unfold f_X12_findsClusters
  simp (disch := first | assumption | omega) only [↓b_hid, bH_some, ↓hid_W, W_some, I3_a, I3_s, I3_m, I3_n, I3_l, I3_lt, I3_le, I3_e, I3_dv, I3_rm, I3_mx, I3_mn, I3_ab, cI, bI_0, bI_1, rZ_b, up_same, up_row, up_col, xr_some, LQ_r, LQ_l, Int.sub_self, Int.add_zero, Int.zero_add, Int.sub_zero, Int.neg_neg, not_true_eq_false, not_false_eq_true, Int.add_sub_cancel, ↓ite_iH, iH_t, iH_f, bH_iH, ↓bH_bind, xr_iH, ↓xr_bind, W_iH, WI_t, WI_f, gI_189, pI_189, iO_189, gR_189_0, aI_190, sI_190, gR_189_1, aI_191, sI_191, gR_189_3, aI_192, gR_189_10, aI_193, sI_193, gR_189_11, aI_194, sI_194, gR_189_13, aI_195, sI_195, gR_189_15, aI_196, sI_196, gR_189_17, aI_197, sI_197, gR_189_18, aI_198, sI_198, gR_189_19, aI_199, sI_199, gR_189_20, aI_200, sI_200, gR_189_23, aI_201, gR_189_24, aI_202, sI_202, gR_189_25, aI_203, sI_203, gR_189_29, aI_204, sI_204, gR_189_32, aI_205, sI_205, gR_189_35, aI_206, sI_206, pZ_189, gL_189, pL_189]
  unfold f_X12_findsClusters_7
  refine lp_W (fun t st => ∃ (i : Nat) (z' : Nat → Int → Int), st = (189, I3 side, I3 i, M p z' l) ∧ i ≤ (FS d n gap).length ∧ t = (FS d n gap).length - i ∧ FrG z z' ∧ Sm z' (insA d (FS d n gap) side i)) (fun t st hst => ?_) ⟨0, _, rfl, by omega, rfl, FrG_up (Or.inr (Or.inr ⟨rfl, Or.inl rfl⟩)) (FrG_r z), ⟨up_same _ _ _ _, fun i i0 i1 => by simp [insA] at i1; omega⟩⟩
  obtain ⟨i, z', rfl, hi, rfl, hG, hX⟩ := hst
  have e21 : z' 189 21 = (FS d n gap).length := by rw [hG.2 21 (by decide) (by decide)]; exact hL.1
  have a0 := hrA i hi
  unfold f_X12_findsClusters_7_b
  by_cases hiN : i < (FS d n gap).length
  · have gi := FS_g (show 0 ≤ n by omega) hiN
    unfold fsG at gi
    have l199 : ∀ (z'' : Nat → Int → Int), FrG z z'' → z'' 199 i = (gl (FS d n gap) i).1 ∧ z'' 200 i = (gl (FS d n gap) i).2 ∧ z'' 200 0 = (gl (FS d n gap) 0).2 := by
      intro z'' h
      refine ⟨?_, ?_, ?_⟩
      · rw [h.1 199 (by decide) (by decide) (by decide)]; exact (hL.2 i hiN).1
      · rw [h.1 200 (by decide) (by decide) (by decide)]; exact (hL.2 i hiN).2
      · rw [h.1 200 (by decide) (by decide) (by decide)]; exact (hL.2 0 hpos).2
    have step : ∀ z2 : Nat → Int → Int, FrG z z2 → Sm z2 (insA d (FS d n gap) side (i + 1)) → WP (f_X12_findsClusters_131 189 (I3 side) (I3 i) (M p z2 l)) (LQ (fun μ => ∃ z', μ = M p z' l ∧ Mn z' (cmeans (insA d (FS d n gap) side (FS d n gap).length)) ∧ FrG z z') (fun t st => ∃ (i : Nat) (z' : Nat → Int → Int), st = (189, I3 side, I3 i, M p z' l) ∧ i ≤ (FS d n gap).length ∧ t = (FS d n gap).length - i ∧ FrG z z' ∧ Sm z' (insA d (FS d n gap) side i)) ((FS d n gap).length - i)) := by
      intro z2 k1 k2
      unfold f_X12_findsClusters_131
      simp (disch := first | assumption | omega) only [↓b_hid, bH_some, ↓hid_W, W_some, I3_a, I3_s, I3_m, I3_n, I3_l, I3_lt, I3_le, I3_e, I3_dv, I3_rm, I3_mx, I3_mn, I3_ab, cI, bI_0, bI_1, rZ_b, up_same, up_row, up_col, xr_some, LQ_r, LQ_l, Int.sub_self, Int.add_zero, Int.zero_add, Int.sub_zero, Int.neg_neg, not_true_eq_false, not_false_eq_true, Int.add_sub_cancel, ↓ite_iH, iH_t, iH_f, bH_iH, ↓bH_bind, xr_iH, ↓xr_bind, W_iH, WI_t, WI_f]
      refine ⟨_, ?_, i + 1, z2, by rw [Int.natCast_add]; rfl, by omega, rfl, k1, k2⟩
      omega
    simp (disch := first | assumption | omega) only [↓b_hid, bH_some, ↓hid_W, W_some, I3_a, I3_s, I3_m, I3_n, I3_l, I3_lt, I3_le, I3_e, I3_dv, I3_rm, I3_mx, I3_mn, I3_ab, cI, bI_0, bI_1, rZ_b, up_same, up_row, up_col, xr_some, LQ_r, LQ_l, Int.sub_self, Int.add_zero, Int.zero_add, Int.sub_zero, Int.neg_neg, not_true_eq_false, not_false_eq_true, Int.add_sub_cancel, ↓ite_iH, iH_t, iH_f, bH_iH, ↓bH_bind, xr_iH, ↓xr_bind, W_iH, WI_t, WI_f, gI_189, pI_189, iO_189, gR_189_0, aI_190, sI_190, gR_189_1, aI_191, sI_191, gR_189_3, aI_192, gR_189_10, aI_193, sI_193, gR_189_11, aI_194, sI_194, gR_189_13, aI_195, sI_195, gR_189_15, aI_196, sI_196, gR_189_17, aI_197, sI_197, gR_189_18, aI_198, sI_198, gR_189_19, aI_199, sI_199, gR_189_20, aI_200, sI_200, gR_189_23, aI_201, gR_189_24, aI_202, sI_202, gR_189_25, aI_203, sI_203, gR_189_29, aI_204, sI_204, gR_189_32, aI_205, sI_205, gR_189_35, aI_206, sI_206, pZ_189, gL_189, pL_189, e21, iH_pos, iH_neg, WI_pos, WI_neg]
    unfold f_X12_findsClusters_19
    by_cases hsz : (gl (FS d n gap) i).2 = (gl (FS d n gap) 0).2
    · have hA : insA d (FS d n gap) side (i + 1) = insR (fre d (FS d n gap) i) side ((gl (FS d n gap) 0).2 - 2).toNat (insA d (FS d n gap) side i) := by rw [insA, if_pos hsz]
      generalize hm : (gl (FS d n gap) 0).2 = m at *
      generalize hx : insA d (FS d n gap) side i = x at *
      have lim := a0.2.2 hiN
      refine lp_W (fun q st => ∃ (t : Nat) (z' : Nat → Int → Int), st = (189, I3 side, I3 i, I3 (2 + t), M p z' l) ∧ (t : Int) + 1 ≤ m ∧ (t : Int) % 2 = side ∧ q = m.toNat - t ∧ FrG z z' ∧ Sm z' (insR (fre d (FS d n gap) i) side t x)) (fun q st hst => ?_) ⟨side, z', rfl, by omega, by omega, rfl, hG, ?_⟩
      · obtain ⟨t, z2, rfl, ht, htp, rfl, hG2, hX2⟩ := hst
        obtain ⟨r1, r2, r3⟩ := l199 z2 hG2
        rw [hsz] at r2
        unfold f_X12_findsClusters_19_b
        by_cases htm : 2 + (t : Int) < m
        · have hE2 : z2 195 ((gl (FS d n gap) i).1 + (2 + t)) = fre d (FS d n gap) i (2 + t) := by
            rw [hG2.1 195 (by decide) (by decide) (by decide), hE.1.2 _ (by omega) (by omega)]; rfl
          have hfv := fre_r (gap := gap) (show 0 ≤ n by omega) hd hiN (k := 2 + t) (by omega) (by omega)
          have l1 := insR_1 (fre d (FS d n gap) i) side x t
          have hfd : ∀ j, 0 ≤ j → j < 2 + (t : Int) → 0 ≤ fre d (FS d n gap) i j ∧ fre d (FS d n gap) i j ≤ 60000 := fun j j0 j1 => by
            have := fre_r (gap := gap) (show 0 ≤ n by omega) hd hiN (k := j) j0 (by omega)
            omega
          have dx := Dr_insR (side := side) a0.1 t hfd
          have e33 : z2 189 33 = (insR (fre d (FS d n gap) i) side t x).1 := hX2.1
          have e2 : 2 + (t : Int) + 2 = 2 + ((t + 2 : Nat) : Int) := by omega
          simp (disch := first | assumption | omega) only [↓b_hid, bH_some, ↓hid_W, W_some, I3_a, I3_s, I3_m, I3_n, I3_l, I3_lt, I3_le, I3_e, I3_dv, I3_rm, I3_mx, I3_mn, I3_ab, cI, bI_0, bI_1, rZ_b, up_same, up_row, up_col, xr_some, LQ_r, LQ_l, Int.sub_self, Int.add_zero, Int.zero_add, Int.sub_zero, Int.neg_neg, not_true_eq_false, not_false_eq_true, Int.add_sub_cancel, ↓ite_iH, iH_t, iH_f, bH_iH, ↓bH_bind, xr_iH, ↓xr_bind, W_iH, WI_t, WI_f, gI_189, pI_189, iO_189, gR_189_0, aI_190, sI_190, gR_189_1, aI_191, sI_191, gR_189_3, aI_192, gR_189_10, aI_193, sI_193, gR_189_11, aI_194, sI_194, gR_189_13, aI_195, sI_195, gR_189_15, aI_196, sI_196, gR_189_17, aI_197, sI_197, gR_189_18, aI_198, sI_198, gR_189_19, aI_199, sI_199, gR_189_20, aI_200, sI_200, gR_189_23, aI_201, gR_189_24, aI_202, sI_202, gR_189_25, aI_203, sI_203, gR_189_29, aI_204, sI_204, gR_189_32, aI_205, sI_205, gR_189_35, aI_206, sI_206, pZ_189, gL_189, pL_189, r1, r2, r3, hE2, e33, iH_pos, iH_neg, WI_pos, WI_neg]
          refine m_ins65 hX2 dx (by omega) (by omega) (by omega) (fun z3 k1 k2 => ?_)
          rw [LQ_l, e2]
          refine ⟨_, ?_, t + 2, z3, rfl, by omega, by omega, rfl, FrG_t hG2 k2, ?_⟩
          · omega
          · rw [insR, if_neg (by omega), insR, if_pos (by omega)]; exact k1
        · have hR := insR_odd (e := fre d (FS d n gap) i) (x := x) (m := m.toNat) (t := t) (side := (side : Int)) (by omega) htp (by omega) (by omega) (by omega)
          have := step z2 hG2 (by rw [hA, show (m - 2).toNat = m.toNat - 2 by omega, ← hR]; exact hX2)
          simp (disch := first | assumption | omega) only [↓b_hid, bH_some, ↓hid_W, W_some, I3_a, I3_s, I3_m, I3_n, I3_l, I3_lt, I3_le, I3_e, I3_dv, I3_rm, I3_mx, I3_mn, I3_ab, cI, bI_0, bI_1, rZ_b, up_same, up_row, up_col, xr_some, LQ_r, LQ_l, Int.sub_self, Int.add_zero, Int.zero_add, Int.sub_zero, Int.neg_neg, not_true_eq_false, not_false_eq_true, Int.add_sub_cancel, ↓ite_iH, iH_t, iH_f, bH_iH, ↓bH_bind, xr_iH, ↓xr_bind, W_iH, WI_t, WI_f, gI_189, pI_189, iO_189, gR_189_0, aI_190, sI_190, gR_189_1, aI_191, sI_191, gR_189_3, aI_192, gR_189_10, aI_193, sI_193, gR_189_11, aI_194, sI_194, gR_189_13, aI_195, sI_195, gR_189_15, aI_196, sI_196, gR_189_17, aI_197, sI_197, gR_189_18, aI_198, sI_198, gR_189_19, aI_199, sI_199, gR_189_20, aI_200, sI_200, gR_189_23, aI_201, gR_189_24, aI_202, sI_202, gR_189_25, aI_203, sI_203, gR_189_29, aI_204, sI_204, gR_189_32, aI_205, sI_205, gR_189_35, aI_206, sI_206, pZ_189, gL_189, pL_189, r2, iH_pos, iH_neg, WI_pos, WI_neg]
          refine W_xr ?_
          simp only [LQ_r]
          exact this
      · have : side = 0 ∨ side = 1 := by omega
        rcases this with rfl | rfl
        · exact hX
        · rw [insR, if_neg (by decide)]; exact hX
    · have hA : insA d (FS d n gap) side (i + 1) = insA d (FS d n gap) side i := by rw [insA, if_neg hsz]
      have st := step z' hG (by rw [hA]; exact hX)
      obtain ⟨r1, r2, r3⟩ := l199 z' hG
      refine lp_1 ?_
      unfold f_X12_findsClusters_19_b
      by_cases hlt : 2 + (side : Int) < (gl (FS d n gap) i).2
      · simp (disch := first | assumption | omega) only [↓b_hid, bH_some, ↓hid_W, W_some, I3_a, I3_s, I3_m, I3_n, I3_l, I3_lt, I3_le, I3_e, I3_dv, I3_rm, I3_mx, I3_mn, I3_ab, cI, bI_0, bI_1, rZ_b, up_same, up_row, up_col, xr_some, LQ_r, LQ_l, Int.sub_self, Int.add_zero, Int.zero_add, Int.sub_zero, Int.neg_neg, not_true_eq_false, not_false_eq_true, Int.add_sub_cancel, ↓ite_iH, iH_t, iH_f, bH_iH, ↓bH_bind, xr_iH, ↓xr_bind, W_iH, WI_t, WI_f, gI_189, pI_189, iO_189, gR_189_0, aI_190, sI_190, gR_189_1, aI_191, sI_191, gR_189_3, aI_192, gR_189_10, aI_193, sI_193, gR_189_11, aI_194, sI_194, gR_189_13, aI_195, sI_195, gR_189_15, aI_196, sI_196, gR_189_17, aI_197, sI_197, gR_189_18, aI_198, sI_198, gR_189_19, aI_199, sI_199, gR_189_20, aI_200, sI_200, gR_189_23, aI_201, gR_189_24, aI_202, sI_202, gR_189_25, aI_203, sI_203, gR_189_29, aI_204, sI_204, gR_189_32, aI_205, sI_205, gR_189_35, aI_206, sI_206, pZ_189, gL_189, pL_189, r2, r3, iH_pos, iH_neg, WI_pos, WI_neg]
        exact W_xr st
      · simp (disch := first | assumption | omega) only [↓b_hid, bH_some, ↓hid_W, W_some, I3_a, I3_s, I3_m, I3_n, I3_l, I3_lt, I3_le, I3_e, I3_dv, I3_rm, I3_mx, I3_mn, I3_ab, cI, bI_0, bI_1, rZ_b, up_same, up_row, up_col, xr_some, LQ_r, LQ_l, Int.sub_self, Int.add_zero, Int.zero_add, Int.sub_zero, Int.neg_neg, not_true_eq_false, not_false_eq_true, Int.add_sub_cancel, ↓ite_iH, iH_t, iH_f, bH_iH, ↓bH_bind, xr_iH, ↓xr_bind, W_iH, WI_t, WI_f, gI_189, pI_189, iO_189, gR_189_0, aI_190, sI_190, gR_189_1, aI_191, sI_191, gR_189_3, aI_192, gR_189_10, aI_193, sI_193, gR_189_11, aI_194, sI_194, gR_189_13, aI_195, sI_195, gR_189_15, aI_196, sI_196, gR_189_17, aI_197, sI_197, gR_189_18, aI_198, sI_198, gR_189_19, aI_199, sI_199, gR_189_20, aI_200, sI_200, gR_189_23, aI_201, gR_189_24, aI_202, sI_202, gR_189_25, aI_203, sI_203, gR_189_29, aI_204, sI_204, gR_189_32, aI_205, sI_205, gR_189_35, aI_206, sI_206, pZ_189, gL_189, pL_189, r2, iH_pos, iH_neg, WI_pos, WI_neg]
        exact W_xr st
  · have hiN' : i = (FS d n gap).length := by omega
    subst hiN'
    simp (disch := first | assumption | omega) only [↓b_hid, bH_some, ↓hid_W, W_some, I3_a, I3_s, I3_m, I3_n, I3_l, I3_lt, I3_le, I3_e, I3_dv, I3_rm, I3_mx, I3_mn, I3_ab, cI, bI_0, bI_1, rZ_b, up_same, up_row, up_col, xr_some, LQ_r, LQ_l, Int.sub_self, Int.add_zero, Int.zero_add, Int.sub_zero, Int.neg_neg, not_true_eq_false, not_false_eq_true, Int.add_sub_cancel, ↓ite_iH, iH_t, iH_f, bH_iH, ↓bH_bind, xr_iH, ↓xr_bind, W_iH, WI_t, WI_f, gI_189, pI_189, iO_189, gR_189_0, aI_190, sI_190, gR_189_1, aI_191, sI_191, gR_189_3, aI_192, gR_189_10, aI_193, sI_193, gR_189_11, aI_194, sI_194, gR_189_13, aI_195, sI_195, gR_189_15, aI_196, sI_196, gR_189_17, aI_197, sI_197, gR_189_18, aI_198, sI_198, gR_189_19, aI_199, sI_199, gR_189_20, aI_200, sI_200, gR_189_23, aI_201, gR_189_24, aI_202, sI_202, gR_189_25, aI_203, sI_203, gR_189_29, aI_204, sI_204, gR_189_32, aI_205, sI_205, gR_189_35, aI_206, sI_206, pZ_189, gL_189, pL_189, e21, iH_pos, iH_neg, WI_pos, WI_neg]
    refine W_xr ?_
    simp only [LQ_r]
    refine W_imp (m_cut hX a0.1 (by omega)) ?_
    rintro _ ⟨z2, rfl, b1, b2⟩
    exact ⟨z2, rfl, b1, FrG_t hG b2⟩
set_option maxHeartbeats 4000000 in
theorem m_meanOf {n gap tol : Int} {d : Int → Int} {q : Int} (hL : FLm z (FS d n gap)) (hE : Ed z n d tol) (h0 : 0 < n) (h1 : n ≤ 200) (hd : ∀ i, 0 ≤ i → i < n → 1 ≤ d i ∧ d i ≤ 60000) (h5 : 5 ≤ (gl (FS d n gap) 0).2) (hq : 0 ≤ q) (hq' : q < 5) : f_X12_meanOf 189 (I3 q) (M p z l) = some (I3 (hmean d (FS d n gap) q), M p z l) := by
  have hpos := FS_pos (d := d) (gap := gap) h0 h1
  have hlen := FS_len (d := d) (gap := gap) (show 0 ≤ n by omega) h1
  have hrS := fun i hi => hsum_r (d := d) (gap := gap) (pl := q) (show 0 ≤ n by omega) hd h5 hq hq' i hi
  have g0 := FS_g (show 0 ≤ n by omega) hpos
  unfold fsG at g0
  have e21 : z 189 21 = (FS d n gap).length := hL.1
  apply W_eq
  unfold f_X12_meanOf f_X12_meanOf_7
  refine lp_W (fun t st => ∃ i : Nat, st = (189, I3 q, I3 (hsum d (FS d n gap) q i).1, I3 (hsum d (FS d n gap) q i).2, I3 i, M p z l) ∧ i ≤ (FS d n gap).length ∧ t = (FS d n gap).length - i) (fun t st hst => ?_) ⟨0, rfl, by omega, rfl⟩
  obtain ⟨i, rfl, hi, rfl⟩ := hst
  have s0 := hrS i hi
  unfold f_X12_meanOf_7_b
  by_cases hiN : i < (FS d n gap).length
  · have gi := FS_g (show 0 ≤ n by omega) hiN
    unfold fsG at gi
    obtain ⟨r1, r2⟩ := hL.2 i hiN
    have r3 : z 200 0 = (gl (FS d n gap) 0).2 := (hL.2 0 hpos).2
    by_cases hsz : (gl (FS d n gap) i).2 = (gl (FS d n gap) 0).2
    · have hs1 : hsum d (FS d n gap) q (i + 1) = ((hsum d (FS d n gap) q i).1 + fre d (FS d n gap) i q, (hsum d (FS d n gap) q i).2 + 1) := by rw [hsum, if_pos hsz]
      have hE2 : z 195 ((gl (FS d n gap) i).1 + q) = fre d (FS d n gap) i q := by rw [hE.1.2 _ (by omega) (by omega)]; rfl
      rw [hsz] at r2
      simp (disch := first | assumption | omega) only [↓b_hid, bH_some, ↓hid_W, W_some, I3_a, I3_s, I3_m, I3_n, I3_l, I3_lt, I3_le, I3_e, I3_dv, I3_rm, I3_mx, I3_mn, I3_ab, cI, bI_0, bI_1, rZ_b, up_same, up_row, up_col, xr_some, LQ_r, LQ_l, Int.sub_self, Int.add_zero, Int.zero_add, Int.sub_zero, Int.neg_neg, not_true_eq_false, not_false_eq_true, Int.add_sub_cancel, ↓ite_iH, iH_t, iH_f, bH_iH, ↓bH_bind, xr_iH, ↓xr_bind, W_iH, WI_t, WI_f, gI_189, pI_189, iO_189, gR_189_0, aI_190, sI_190, gR_189_1, aI_191, sI_191, gR_189_3, aI_192, gR_189_10, aI_193, sI_193, gR_189_11, aI_194, sI_194, gR_189_13, aI_195, sI_195, gR_189_15, aI_196, sI_196, gR_189_17, aI_197, sI_197, gR_189_18, aI_198, sI_198, gR_189_19, aI_199, sI_199, gR_189_20, aI_200, sI_200, gR_189_23, aI_201, gR_189_24, aI_202, sI_202, gR_189_25, aI_203, sI_203, gR_189_29, aI_204, sI_204, gR_189_32, aI_205, sI_205, gR_189_35, aI_206, sI_206, pZ_189, gL_189, pL_189, e21, r1, r2, r3, hE2, f_X12_meanOf_51, f_X12_meanOf_75, iH_pos, iH_neg, WI_pos, WI_neg]
      refine ⟨_, ?_, i + 1, by rw [hs1, Int.natCast_add]; rfl, by omega, rfl⟩
      omega
    · have hs1 : hsum d (FS d n gap) q (i + 1) = hsum d (FS d n gap) q i := by rw [hsum, if_neg hsz]
      simp (disch := first | assumption | omega) only [↓b_hid, bH_some, ↓hid_W, W_some, I3_a, I3_s, I3_m, I3_n, I3_l, I3_lt, I3_le, I3_e, I3_dv, I3_rm, I3_mx, I3_mn, I3_ab, cI, bI_0, bI_1, rZ_b, up_same, up_row, up_col, xr_some, LQ_r, LQ_l, Int.sub_self, Int.add_zero, Int.zero_add, Int.sub_zero, Int.neg_neg, not_true_eq_false, not_false_eq_true, Int.add_sub_cancel, ↓ite_iH, iH_t, iH_f, bH_iH, ↓bH_bind, xr_iH, ↓xr_bind, W_iH, WI_t, WI_f, gI_189, pI_189, iO_189, gR_189_0, aI_190, sI_190, gR_189_1, aI_191, sI_191, gR_189_3, aI_192, gR_189_10, aI_193, sI_193, gR_189_11, aI_194, sI_194, gR_189_13, aI_195, sI_195, gR_189_15, aI_196, sI_196, gR_189_17, aI_197, sI_197, gR_189_18, aI_198, sI_198, gR_189_19, aI_199, sI_199, gR_189_20, aI_200, sI_200, gR_189_23, aI_201, gR_189_24, aI_202, sI_202, gR_189_25, aI_203, sI_203, gR_189_29, aI_204, sI_204, gR_189_32, aI_205, sI_205, gR_189_35, aI_206, sI_206, pZ_189, gL_189, pL_189, e21, r2, r3, f_X12_meanOf_51, f_X12_meanOf_75, iH_pos, iH_neg, WI_pos, WI_neg]
      refine ⟨_, ?_, i + 1, by rw [hs1, Int.natCast_add]; rfl, by omega, rfl⟩
      omega
  · have hiN' : i = (FS d n gap).length := by omega
    subst hiN'
    have hc1 := s0.2.2.2.2 hpos
    have hm : (hsum d (FS d n gap) q (FS d n gap).length).1 / (hsum d (FS d n gap) q (FS d n gap).length).2 = hmean d (FS d n gap) q := rfl
    simp (disch := first | assumption | omega) only [↓b_hid, bH_some, ↓hid_W, W_some, I3_a, I3_s, I3_m, I3_n, I3_l, I3_lt, I3_le, I3_e, I3_dv, I3_rm, I3_mx, I3_mn, I3_ab, cI, bI_0, bI_1, rZ_b, up_same, up_row, up_col, xr_some, LQ_r, LQ_l, Int.sub_self, Int.add_zero, Int.zero_add, Int.sub_zero, Int.neg_neg, not_true_eq_false, not_false_eq_true, Int.add_sub_cancel, ↓ite_iH, iH_t, iH_f, bH_iH, ↓bH_bind, xr_iH, ↓xr_bind, W_iH, WI_t, WI_f, gI_189, pI_189, iO_189, gR_189_0, aI_190, sI_190, gR_189_1, aI_191, sI_191, gR_189_3, aI_192, gR_189_10, aI_193, sI_193, gR_189_11, aI_194, sI_194, gR_189_13, aI_195, sI_195, gR_189_15, aI_196, sI_196, gR_189_17, aI_197, sI_197, gR_189_18, aI_198, sI_198, gR_189_19, aI_199, sI_199, gR_189_20, aI_200, sI_200, gR_189_23, aI_201, gR_189_24, aI_202, sI_202, gR_189_25, aI_203, sI_203, gR_189_29, aI_204, sI_204, gR_189_32, aI_205, sI_205, gR_189_35, aI_206, sI_206, pZ_189, gL_189, pL_189, e21, f_X12_meanOf_83, hm, iH_pos, iH_neg, WI_pos, WI_neg]
end
def Lσ (σ : Int → Int) (s : Nat) : List (Int × Int) := FS (dσ σ s) (σ (83 + s)) (σ 0)
def lcl (σ : Int → Int) (s : Nat) (side : Int) : List Int := cmeans (insA (dσ σ s) (Lσ σ s) side (Lσ σ s).length)
def noL (σ : Int → Int) (s : Nat) : Prop := σ (83 + s) = 0 ∨ (gl (Lσ σ s) 0).2 < 5
noncomputable def A_clusters (σ : Int → Int) (s w : Int) : Int := if 0 ≤ s ∧ s ≤ 2 then (if 0 ≤ w ∧ w ≤ 1 then cif (noL σ s.toNat) (-2) (lcl σ s.toNat w).length else -1) else -1
theorem lcl_r {σ : Int → Int} {s : Nat} (hV : V σ) (hs : s < 3) (hn : ¬noL σ s) (side : Int) : (lcl σ s side).length ≤ 200 ∧ ∀ v ∈ lcl σ s side, 0 ≤ v ∧ v ≤ 60000 := by
  have ht := σ_tr hV hs
  unfold noL at hn
  have h := insA_r (d := dσ σ s) (gap := σ 0) ht.1.1 ht.2 (by unfold Lσ at hn; omega) side (Lσ σ s).length (Nat.le_refl _)
  have hA : Dr (insA (dσ σ s) (Lσ σ s) side (Lσ σ s).length) := h.1
  have hr := ckS_r (insA (dσ σ s) (Lσ σ s) side (Lσ σ s).length).2 (insA (dσ σ s) (Lσ σ s) side (Lσ σ s).length).1 (insA (dσ σ s) (Lσ σ s) side (Lσ σ s).length).1.toNat
  have hm := ckS_m (f := (insA (dσ σ s) (Lσ σ s) side (Lσ σ s).length).2) (n := (insA (dσ σ s) (Lσ σ s) side (Lσ σ s).length).1) (insA (dσ σ s) (Lσ σ s) side (Lσ σ s).length).1.toNat (fun i hi => hA.2 i (by omega) (by omega))
  have h2 := h.2.1
  have h3 := hA.1
  refine ⟨?_, hm⟩
  unfold lcl cmeans
  have h2 : (insA (dσ σ s) (Lσ σ s) side (Lσ σ s).length).1 ≤ σ (83 + s) := h2
  omega
section
variable {p : Nat → Nat} {z l : Nat → Int → Int}
set_option maxHeartbeats 4000000 in
theorem c_clusters {σ : Int → Int} {s w : Int} (hb : isB (p 0)) (hV : V σ) (hS : St z (p 0) σ) (hs : -2147483648 ≤ s ∧ s < 2147483648) (hw : -2147483648 ≤ w ∧ w < 2147483648) : WP (f_X11_clusters 0 (I3 s) (I3 w) (M p z l)) (fun r => ∃ z', r = (I3 (A_clusters σ s w), M p z' l) ∧ FrX z z') := by
  have hr := isB_r hb
  unfold f_X11_clusters A_clusters
  by_cases h1 : 0 ≤ s ∧ s ≤ 2
  case neg =>
    rw [if_neg h1]
    simp (disch := first | assumption | omega) only [↓b_hid, bH_some, ↓hid_W, W_some, I3_a, I3_s, I3_m, I3_n, I3_l, I3_lt, I3_le, I3_e, I3_dv, I3_rm, I3_mx, I3_mn, I3_ab, cI, bI_0, bI_1, rZ_b, up_same, up_row, up_col, xr_some, LQ_r, LQ_l, Int.sub_self, Int.add_zero, Int.zero_add, Int.sub_zero, Int.neg_neg, not_true_eq_false, not_false_eq_true, Int.add_sub_cancel, ↓ite_iH, iH_t, iH_f, bH_iH, ↓bH_bind, xr_iH, ↓xr_bind, W_iH, WI_t, WI_f, g_isSlot, bI_f, iH_pos, iH_neg, WI_pos, WI_neg]
    exact ⟨z, rfl, FrX_r z⟩
  by_cases h2 : 0 ≤ w ∧ w ≤ 1
  case neg =>
    rw [if_pos h1, if_neg h2]
    simp (disch := first | assumption | omega) only [↓b_hid, bH_some, ↓hid_W, W_some, I3_a, I3_s, I3_m, I3_n, I3_l, I3_lt, I3_le, I3_e, I3_dv, I3_rm, I3_mx, I3_mn, I3_ab, cI, bI_0, bI_1, rZ_b, up_same, up_row, up_col, xr_some, LQ_r, LQ_l, Int.sub_self, Int.add_zero, Int.zero_add, Int.sub_zero, Int.neg_neg, not_true_eq_false, not_false_eq_true, Int.add_sub_cancel, ↓ite_iH, iH_t, iH_f, bH_iH, ↓bH_bind, xr_iH, ↓xr_bind, W_iH, WI_t, WI_f, g_isSlot, g_inRange, bI_f, bI_t, iH_pos, iH_neg, WI_pos, WI_neg]
    exact ⟨z, rfl, FrX_r z⟩
  rw [if_pos h1, if_pos h2]
  have hs3 : s.toNat < 3 := by omega
  have ht := σ_tr hV hs3
  have eg : z (p 0) 2 = σ 0 := hS.1.1
  simp (disch := first | assumption | omega) only [↓b_hid, bH_some, ↓hid_W, W_some, I3_a, I3_s, I3_m, I3_n, I3_l, I3_lt, I3_le, I3_e, I3_dv, I3_rm, I3_mx, I3_mn, I3_ab, cI, bI_0, bI_1, rZ_b, up_same, up_row, up_col, xr_some, LQ_r, LQ_l, Int.sub_self, Int.add_zero, Int.zero_add, Int.sub_zero, Int.neg_neg, not_true_eq_false, not_false_eq_true, Int.add_sub_cancel, ↓ite_iH, iH_t, iH_f, bH_iH, ↓bH_bind, xr_iH, ↓xr_bind, W_iH, WI_t, WI_f, aR_34, aR_19, sR_19, gR_0_0, pR_0, gI_0, pI_0, iO_0, gR_0_1, gR_0_3, gR_0_4, gR_0_5, gR_0_6, gR_0_7, gR_0_8, gR_0_9, gR_0_10, gR_0_11, gI_B, pI_B, iO_B, gR_B0, gR_B1, aR_B, g_isSlot, g_inRange, bI_t, g_trAt, gR_0_7, gR_0_10, iO_35, iO_47, eg, iH_pos, iH_neg, WI_pos, WI_neg]
  refine W_bH (W_imp (c_split hb hV hS hs3) ?_)
  rintro _ ⟨z1, rfl, a1, a2⟩
  simp (disch := first | assumption | omega) only [↓b_hid, bH_some, ↓hid_W, W_some, I3_a, I3_s, I3_m, I3_n, I3_l, I3_lt, I3_le, I3_e, I3_dv, I3_rm, I3_mx, I3_mn, I3_ab, cI, bI_0, bI_1, rZ_b, up_same, up_row, up_col, xr_some, LQ_r, LQ_l, Int.sub_self, Int.add_zero, Int.zero_add, Int.sub_zero, Int.neg_neg, not_true_eq_false, not_false_eq_true, Int.add_sub_cancel, ↓ite_iH, iH_t, iH_f, bH_iH, ↓bH_bind, xr_iH, ↓xr_bind, W_iH, WI_t, WI_f, aR_34, aR_19, sR_19, gR_0_0, pR_0, gI_0, pI_0, iO_0, gR_0_1, gR_0_3, gR_0_4, gR_0_5, gR_0_6, gR_0_7, gR_0_8, gR_0_9, gR_0_10, gR_0_11, gR_0_7, gR_0_10, iO_47]
  refine W_bH (W_imp (w_gather a1 ht.1.1 ht.1.2 ht.2) ?_)
  rintro _ ⟨v, z2, rfl, b1, b2⟩
  have hFX : FrX z z2 := fun k hk => (b1 k (by omega)).trans (a2 k (by omega))
  rcases b2 with ⟨rfl, b2⟩ | ⟨rfl, b2, b3, b4, b5, b6, b7, b8⟩
  · have hn : noL σ s.toNat := b2
    rw [cif_t hn]
    simp (disch := first | assumption | omega) only [↓b_hid, bH_some, ↓hid_W, W_some, I3_a, I3_s, I3_m, I3_n, I3_l, I3_lt, I3_le, I3_e, I3_dv, I3_rm, I3_mx, I3_mn, I3_ab, cI, bI_0, bI_1, rZ_b, up_same, up_row, up_col, xr_some, LQ_r, LQ_l, Int.sub_self, Int.add_zero, Int.zero_add, Int.sub_zero, Int.neg_neg, not_true_eq_false, not_false_eq_true, Int.add_sub_cancel, ↓ite_iH, iH_t, iH_f, bH_iH, ↓bH_bind, xr_iH, ↓xr_bind, W_iH, WI_t, WI_f, iH_pos, iH_neg, WI_pos, WI_neg]
    exact ⟨z2, rfl, hFX⟩
  · have hn : ¬noL σ s.toNat := by
      rintro (h | h)
      · omega
      · unfold Lσ at h; omega
    have hl := lcl_r hV hs3 hn w
    rw [cif_f hn]
    by_cases hw0 : w = 0
    · subst hw0
      have e : z2 48 2 = (lcl σ s.toNat 0).length := b7.1
      simp (disch := first | assumption | omega) only [↓b_hid, bH_some, ↓hid_W, W_some, I3_a, I3_s, I3_m, I3_n, I3_l, I3_lt, I3_le, I3_e, I3_dv, I3_rm, I3_mx, I3_mn, I3_ab, cI, bI_0, bI_1, rZ_b, up_same, up_row, up_col, xr_some, LQ_r, LQ_l, Int.sub_self, Int.add_zero, Int.zero_add, Int.sub_zero, Int.neg_neg, not_true_eq_false, not_false_eq_true, Int.add_sub_cancel, ↓ite_iH, iH_t, iH_f, bH_iH, ↓bH_bind, xr_iH, ↓xr_bind, W_iH, WI_t, WI_f, aR_34, aR_19, sR_19, gR_0_0, pR_0, gI_0, pI_0, iO_0, gR_0_1, gR_0_3, gR_0_4, gR_0_5, gR_0_6, gR_0_7, gR_0_8, gR_0_9, gR_0_10, gR_0_11, gI_47, pI_47, iO_47, gR_47_0, gR_47_1, gR_0_10, gR_47_0, gI_48, e, iH_pos, iH_neg, WI_pos, WI_neg]
      exact ⟨z2, rfl, hFX⟩
    · have hw1 : w = 1 := by omega
      subst hw1
      have e : z2 50 2 = (lcl σ s.toNat 1).length := b8.1
      simp (disch := first | assumption | omega) only [↓b_hid, bH_some, ↓hid_W, W_some, I3_a, I3_s, I3_m, I3_n, I3_l, I3_lt, I3_le, I3_e, I3_dv, I3_rm, I3_mx, I3_mn, I3_ab, cI, bI_0, bI_1, rZ_b, up_same, up_row, up_col, xr_some, LQ_r, LQ_l, Int.sub_self, Int.add_zero, Int.zero_add, Int.sub_zero, Int.neg_neg, not_true_eq_false, not_false_eq_true, Int.add_sub_cancel, ↓ite_iH, iH_t, iH_f, bH_iH, ↓bH_bind, xr_iH, ↓xr_bind, W_iH, WI_t, WI_f, aR_34, aR_19, sR_19, gR_0_0, pR_0, gI_0, pI_0, iO_0, gR_0_1, gR_0_3, gR_0_4, gR_0_5, gR_0_6, gR_0_7, gR_0_8, gR_0_9, gR_0_10, gR_0_11, gI_47, pI_47, iO_47, gR_47_0, gR_47_1, gR_0_10, gR_47_1, gI_50, e, iH_pos, iH_neg, WI_pos, WI_neg]
      exact ⟨z2, rfl, hFX⟩
theorem m_noL {s : Nat} {σ : Int → Int} (hV : V σ) (hs : s < 3) (hL : FLm z (Lσ σ s)) : (z 189 21 = 0 ↔ σ (83 + s) = 0) ∧ (0 < σ (83 + s) → z 200 0 = (gl (Lσ σ s) 0).2 ∧ 1 ≤ (gl (Lσ σ s) 0).2 ∧ (gl (Lσ σ s) 0).2 ≤ 200) ∧ 0 ≤ z 189 21 ∧ z 189 21 ≤ 100 := by
  have ht := σ_tr hV hs
  have hl := FS_len (d := dσ σ s) (gap := σ 0) ht.1.1 ht.1.2
  have e : z 189 21 = (Lσ σ s).length := hL.1
  have hl' : (Lσ σ s).length ≤ 100 := hl
  refine ⟨?_, ?_, by omega, by omega⟩
  · constructor
    · intro h
      by_cases h0 : 0 < σ (83 + s)
      · have := FS_pos (d := dσ σ s) (gap := σ 0) h0 ht.1.2
        have : 0 < (Lσ σ s).length := this
        omega
      · omega
    · intro h
      rw [e]; unfold Lσ FS; rw [if_pos h]; rfl
  · intro h0
    have hp := FS_pos (d := dσ σ s) (gap := σ 0) h0 ht.1.2
    have g := FS_g ht.1.1 hp
    unfold fsG at g
    refine ⟨(hL.2 0 hp).2, ?_, ?_⟩ <;> unfold Lσ <;> omega
set_option maxHeartbeats 4000000 in
theorem m_clusters {σ : Int → Int} {s w : Int} (hσ : z 190 = σ) (hV : V σ) (hs : -2147483648 ≤ s ∧ s < 2147483648) (hw : -2147483648 ≤ w ∧ w < 2147483648) : WP (f_X12_clusters 189 (I3 s) (I3 w) (M p z l)) (fun r => ∃ z', r = (I3 (A_clusters σ s w), M p z' l) ∧ FrQ z z') := by
  unfold f_X12_clusters A_clusters
  by_cases h1 : 0 ≤ s ∧ s ≤ 2
  case neg =>
    rw [if_neg h1]
    simp (disch := first | assumption | omega) only [↓b_hid, bH_some, ↓hid_W, W_some, I3_a, I3_s, I3_m, I3_n, I3_l, I3_lt, I3_le, I3_e, I3_dv, I3_rm, I3_mx, I3_mn, I3_ab, cI, bI_0, bI_1, rZ_b, up_same, up_row, up_col, xr_some, LQ_r, LQ_l, Int.sub_self, Int.add_zero, Int.zero_add, Int.sub_zero, Int.neg_neg, not_true_eq_false, not_false_eq_true, Int.add_sub_cancel, ↓ite_iH, iH_t, iH_f, bH_iH, ↓bH_bind, xr_iH, ↓xr_bind, W_iH, WI_t, WI_f, m_isSlot, bI_f, iH_pos, iH_neg, WI_pos, WI_neg]
    exact ⟨z, rfl, FrQ_r z⟩
  by_cases h2 : 0 ≤ w ∧ w ≤ 1
  case neg =>
    rw [if_pos h1, if_neg h2]
    simp (disch := first | assumption | omega) only [↓b_hid, bH_some, ↓hid_W, W_some, I3_a, I3_s, I3_m, I3_n, I3_l, I3_lt, I3_le, I3_e, I3_dv, I3_rm, I3_mx, I3_mn, I3_ab, cI, bI_0, bI_1, rZ_b, up_same, up_row, up_col, xr_some, LQ_r, LQ_l, Int.sub_self, Int.add_zero, Int.zero_add, Int.sub_zero, Int.neg_neg, not_true_eq_false, not_false_eq_true, Int.add_sub_cancel, ↓ite_iH, iH_t, iH_f, bH_iH, ↓bH_bind, xr_iH, ↓xr_bind, W_iH, WI_t, WI_f, m_isSlot, m_in, bI_f, bI_t, iH_pos, iH_neg, WI_pos, WI_neg]
    exact ⟨z, rfl, FrQ_r z⟩
  rw [if_pos h1, if_pos h2]
  have hs3 : s.toNat < 3 := by omega
  have hss : s = ((s.toNat : Nat) : Int) := by omega
  simp (disch := first | assumption | omega) only [↓b_hid, bH_some, ↓hid_W, W_some, I3_a, I3_s, I3_m, I3_n, I3_l, I3_lt, I3_le, I3_e, I3_dv, I3_rm, I3_mx, I3_mn, I3_ab, cI, bI_0, bI_1, rZ_b, up_same, up_row, up_col, xr_some, LQ_r, LQ_l, Int.sub_self, Int.add_zero, Int.zero_add, Int.sub_zero, Int.neg_neg, not_true_eq_false, not_false_eq_true, Int.add_sub_cancel, ↓ite_iH, iH_t, iH_f, bH_iH, ↓bH_bind, xr_iH, ↓xr_bind, W_iH, WI_t, WI_f, gI_189, pI_189, iO_189, gR_189_0, aI_190, sI_190, gR_189_1, aI_191, sI_191, gR_189_3, aI_192, gR_189_10, aI_193, sI_193, gR_189_11, aI_194, sI_194, gR_189_13, aI_195, sI_195, gR_189_15, aI_196, sI_196, gR_189_17, aI_197, sI_197, gR_189_18, aI_198, sI_198, gR_189_19, aI_199, sI_199, gR_189_20, aI_200, sI_200, gR_189_23, aI_201, gR_189_24, aI_202, sI_202, gR_189_25, aI_203, sI_203, gR_189_29, aI_204, sI_204, gR_189_32, aI_205, sI_205, gR_189_35, aI_206, sI_206, pZ_189, gL_189, pL_189, m_isSlot, m_in, bI_t, iH_pos, iH_neg, WI_pos, WI_neg]
  generalize s.toNat = sn at *
  subst hss
  have ht := σ_tr hV hs3
  refine W_bH (W_imp (q_opens hσ hV hs3) ?_)
  rintro _ ⟨z1, rfl, a1, a2, a3⟩
  have a1 : FLm z1 (Lσ σ sn) := a1
  obtain ⟨n1, n2, n3⟩ := m_noL hV hs3 a1
  by_cases h0 : σ (83 + sn) = 0
  · have := n1.mpr h0
    rw [cif_t (show noL σ sn from Or.inl h0)]
    simp (disch := first | assumption | omega) only [↓b_hid, bH_some, ↓hid_W, W_some, I3_a, I3_s, I3_m, I3_n, I3_l, I3_lt, I3_le, I3_e, I3_dv, I3_rm, I3_mx, I3_mn, I3_ab, cI, bI_0, bI_1, rZ_b, up_same, up_row, up_col, xr_some, LQ_r, LQ_l, Int.sub_self, Int.add_zero, Int.zero_add, Int.sub_zero, Int.neg_neg, not_true_eq_false, not_false_eq_true, Int.add_sub_cancel, ↓ite_iH, iH_t, iH_f, bH_iH, ↓bH_bind, xr_iH, ↓xr_bind, W_iH, WI_t, WI_f, gI_189, pI_189, iO_189, gR_189_0, aI_190, sI_190, gR_189_1, aI_191, sI_191, gR_189_3, aI_192, gR_189_10, aI_193, sI_193, gR_189_11, aI_194, sI_194, gR_189_13, aI_195, sI_195, gR_189_15, aI_196, sI_196, gR_189_17, aI_197, sI_197, gR_189_18, aI_198, sI_198, gR_189_19, aI_199, sI_199, gR_189_20, aI_200, sI_200, gR_189_23, aI_201, gR_189_24, aI_202, sI_202, gR_189_25, aI_203, sI_203, gR_189_29, aI_204, sI_204, gR_189_32, aI_205, sI_205, gR_189_35, aI_206, sI_206, pZ_189, gL_189, pL_189, iH_pos, iH_neg, WI_pos, WI_neg]
    exact ⟨z1, rfl, a3⟩
  · have h0' : ¬z1 189 21 = 0 := fun h => h0 (n1.mp h)
    obtain ⟨m1, m2, m3⟩ := n2 (by omega)
    by_cases h5 : (gl (Lσ σ sn) 0).2 < 5
    · rw [cif_t (show noL σ sn from Or.inr h5)]
      simp (disch := first | assumption | omega) only [↓b_hid, bH_some, ↓hid_W, W_some, I3_a, I3_s, I3_m, I3_n, I3_l, I3_lt, I3_le, I3_e, I3_dv, I3_rm, I3_mx, I3_mn, I3_ab, cI, bI_0, bI_1, rZ_b, up_same, up_row, up_col, xr_some, LQ_r, LQ_l, Int.sub_self, Int.add_zero, Int.zero_add, Int.sub_zero, Int.neg_neg, not_true_eq_false, not_false_eq_true, Int.add_sub_cancel, ↓ite_iH, iH_t, iH_f, bH_iH, ↓bH_bind, xr_iH, ↓xr_bind, W_iH, WI_t, WI_f, gI_189, pI_189, iO_189, gR_189_0, aI_190, sI_190, gR_189_1, aI_191, sI_191, gR_189_3, aI_192, gR_189_10, aI_193, sI_193, gR_189_11, aI_194, sI_194, gR_189_13, aI_195, sI_195, gR_189_15, aI_196, sI_196, gR_189_17, aI_197, sI_197, gR_189_18, aI_198, sI_198, gR_189_19, aI_199, sI_199, gR_189_20, aI_200, sI_200, gR_189_23, aI_201, gR_189_24, aI_202, sI_202, gR_189_25, aI_203, sI_203, gR_189_29, aI_204, sI_204, gR_189_32, aI_205, sI_205, gR_189_35, aI_206, sI_206, pZ_189, gL_189, pL_189, m1, iH_pos, iH_neg, WI_pos, WI_neg]
      exact ⟨z1, rfl, a3⟩
    · have hn : ¬noL σ sn := by
        rintro (h | h)
        · exact h0 h
        · exact h5 h
      rw [cif_f hn]
      have hl := lcl_r hV hs3 hn w
      simp (disch := first | assumption | omega) only [↓b_hid, bH_some, ↓hid_W, W_some, I3_a, I3_s, I3_m, I3_n, I3_l, I3_lt, I3_le, I3_e, I3_dv, I3_rm, I3_mx, I3_mn, I3_ab, cI, bI_0, bI_1, rZ_b, up_same, up_row, up_col, xr_some, LQ_r, LQ_l, Int.sub_self, Int.add_zero, Int.zero_add, Int.sub_zero, Int.neg_neg, not_true_eq_false, not_false_eq_true, Int.add_sub_cancel, ↓ite_iH, iH_t, iH_f, bH_iH, ↓bH_bind, xr_iH, ↓xr_bind, W_iH, WI_t, WI_f, gI_189, pI_189, iO_189, gR_189_0, aI_190, sI_190, gR_189_1, aI_191, sI_191, gR_189_3, aI_192, gR_189_10, aI_193, sI_193, gR_189_11, aI_194, sI_194, gR_189_13, aI_195, sI_195, gR_189_15, aI_196, sI_196, gR_189_17, aI_197, sI_197, gR_189_18, aI_198, sI_198, gR_189_19, aI_199, sI_199, gR_189_20, aI_200, sI_200, gR_189_23, aI_201, gR_189_24, aI_202, sI_202, gR_189_25, aI_203, sI_203, gR_189_29, aI_204, sI_204, gR_189_32, aI_205, sI_205, gR_189_35, aI_206, sI_206, pZ_189, gL_189, pL_189, m1, iH_pos, iH_neg, WI_pos, WI_neg]
      have hww : w = ((w.toNat : Nat) : Int) := by omega
      generalize w.toNat = wn at *
      subst hww
      refine W_bH (W_imp (m_findsC (side := wn) a1 a2 (by omega) ht.1.2 ht.2 (by unfold Lσ at h5; omega) (by omega)) ?_)
      rintro _ ⟨z2, rfl, b1, b2⟩
      have e : z2 189 34 = (lcl σ sn wn).length := b1.1
      simp (disch := first | assumption | omega) only [↓b_hid, bH_some, ↓hid_W, W_some, I3_a, I3_s, I3_m, I3_n, I3_l, I3_lt, I3_le, I3_e, I3_dv, I3_rm, I3_mx, I3_mn, I3_ab, cI, bI_0, bI_1, rZ_b, up_same, up_row, up_col, xr_some, LQ_r, LQ_l, Int.sub_self, Int.add_zero, Int.zero_add, Int.sub_zero, Int.neg_neg, not_true_eq_false, not_false_eq_true, Int.add_sub_cancel, ↓ite_iH, iH_t, iH_f, bH_iH, ↓bH_bind, xr_iH, ↓xr_bind, W_iH, WI_t, WI_f, gI_189, pI_189, iO_189, gR_189_0, aI_190, sI_190, gR_189_1, aI_191, sI_191, gR_189_3, aI_192, gR_189_10, aI_193, sI_193, gR_189_11, aI_194, sI_194, gR_189_13, aI_195, sI_195, gR_189_15, aI_196, sI_196, gR_189_17, aI_197, sI_197, gR_189_18, aI_198, sI_198, gR_189_19, aI_199, sI_199, gR_189_20, aI_200, sI_200, gR_189_23, aI_201, gR_189_24, aI_202, sI_202, gR_189_25, aI_203, sI_203, gR_189_29, aI_204, sI_204, gR_189_32, aI_205, sI_205, gR_189_35, aI_206, sI_206, pZ_189, gL_189, pL_189, e]
      exact ⟨z2, rfl, FrQ_t a3 (FrQ_G b2)⟩
end
