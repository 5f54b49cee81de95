/-! explain(): the model. -/
theorem lf_mem {D : List Int} {i : Int} (h0 : 0 ≤ i) (h1 : i < D.length) : lf D i ∈ D := by
  unfold lf
  rw [List.getD_eq_getElem?_getD, List.getElem?_eq_getElem (show i.toNat < D.length by omega)]
  exact List.getElem_mem _
theorem colD_g {x y : Dn} {o : Int} (hx : Gd x) (hy : Gd y) (ho : 0 ≤ o ∧ o ≤ 60000) : ∀ v ∈ colD x y o, 1 ≤ v ∧ v ≤ 13000000 := dall_g (mrg_g hx hy ho 400 0 0)
theorem dall_len (L : List (Int × Int)) : (dall L).length ≤ 2 * L.length := by
  cases L with
  | nil => simp [dall]
  | cons x r => have := dr_len r x.1 x.2; unfold dall; simp only [List.length_cons]; omega
theorem colD_len {x y : Dn} (o : Int) : ((colD x y o).length : Int) ≤ 2 * ((if 0 < x.1 then (x.1 + 1) / 2 else 0) + (if 0 < y.1 then (y.1 + 1) / 2 else 0)) := by
  have h1 := dall_len (mrg x y o 400 0 0)
  have h2 := mrg_len x y o 400 0 0
  unfold colD
  rw [show ((0 : Nat) : Int) = 0 from rfl, Int.sub_zero, Int.sub_zero] at h2
  split at h2 <;> split at h2 <;> omega
section
variable {p : Nat → Nat} {z l : Nat → Int → Int}
theorem σ_Rw {σ : Int → Int} (hσ : z 190 = σ) {q : Int} (hq : 0 ≤ q) : Rw z q (Fσ σ q.toNat) := by
  intro j j0 j1
  rw [hσ]; unfold Fσ
  rw [show ((q.toNat : Nat) : Int) = q by omega]
theorem FrQ_K {z z' : Nat → Int → Int} (h : FrK z z') : FrQ z z' := ⟨fun k hk => h.1 k (by omega) (by omega), h.1 190 (by decide) (by decide), h.1 191 (by decide) (by decide), h.1 192 (by decide) (by decide), fun j hj => h.2 j (by omega)⟩
theorem FrQ_V {z z' : Nat → Int → Int} (h : FrV z z') : FrQ z z' := ⟨fun k hk => h.1 k (by omega) (by omega) (by omega) (by omega), h.1 190 (by decide) (by decide) (by decide) (by decide), h.1 191 (by decide) (by decide) (by decide) (by decide), h.1 192 (by decide) (by decide) (by decide) (by decide), fun j hj => h.2 j (by omega)⟩
theorem FrQ_1 {z z' : Nat → Int → Int} {a : Nat} (ha : 193 ≤ a) (h : ∀ c, c ≠ a → z' c = z c) : FrQ z z' := ⟨fun k hk => h k (by omega), h 190 (by omega), h 191 (by omega), h 192 (by omega), fun j hj => by rw [h 189 (by omega)]⟩
set_option maxHeartbeats 4000000 in
theorem m_collides {σ : Int → Int} {i j o : Int} (hσ : z 190 = σ) (hV : V σ) (hi : 0 ≤ i) (hi' : i < σ 58) (hj : 0 ≤ j) (hj' : j < σ 58) (ho : 0 ≤ o ∧ o ≤ 60000) : WP (f_X12_collides 189 (I3 i) (I3 j) (I3 o) (M p z l)) (fun μ => ∃ z', μ = M p z' l ∧ Lo z' (colD (bσ σ i) (bσ σ j) o) ∧ FrQ z z' ∧ z' 189 22 = z 189 22) := by
  have h58 := hV.2.2.2.2.1
  have h3 := hV.2.2.2.1
  obtain ⟨a1, a2, a3, a4⟩ := hV.2.2.2.2.2.2.1 i hi hi'
  obtain ⟨b1, b2, b3, b4⟩ := hV.2.2.2.2.2.2.1 j hj hj'
  have e60i : σ (59 + 2 * i + 1) = σ (60 + 2 * i) := by rw [show 59 + 2 * i + 1 = 60 + 2 * i by omega]
  have e60j : σ (59 + 2 * j + 1) = σ (60 + 2 * j) := by rw [show 59 + 2 * j + 1 = 60 + 2 * j by omega]
  have hPi : PV (Fσ σ (σ (59 + 2 * i)).toNat) := hV.2.2.2.2.2.1 _ (by omega)
  have hPj : PV (Fσ σ (σ (59 + 2 * j)).toNat) := hV.2.2.2.2.2.1 _ (by omega)
  have ri := bσ_r hV hi hi'
  have rj := bσ_r hV hj hj'
  have gi := bσ_g hV hi hi'
  have gj := bσ_g hV hj hj'
  unfold f_X12_collides
  simp (disch := first | assumption | omega) only [↓b_hid, bH_some, ↓hid_W, W_some, I3_a, I3_s, I3_m, I3_n, I3_l, I3_lt, I3_le, I3_e, I3_dv, I3_rm, I3_mx, I3_mn, I3_ab, cI, bI_0, bI_1, rZ_b, up_same, up_row, up_col, xr_some, LQ_r, LQ_l, Int.sub_self, Int.add_zero, Int.zero_add, Int.sub_zero, Int.neg_neg, not_true_eq_false, not_false_eq_true, Int.add_sub_cancel, ↓ite_iH, iH_t, iH_f, bH_iH, ↓bH_bind, xr_iH, ↓xr_bind, W_iH, WI_t, WI_f, gI_189, pI_189, iO_189, gR_189_0, aI_190, sI_190, gR_189_1, aI_191, sI_191, gR_189_3, aI_192, gR_189_10, aI_193, sI_193, gR_189_11, aI_194, sI_194, gR_189_13, aI_195, sI_195, gR_189_15, aI_196, sI_196, gR_189_17, aI_197, sI_197, gR_189_18, aI_198, sI_198, gR_189_19, aI_199, sI_199, gR_189_20, aI_200, sI_200, gR_189_23, aI_201, gR_189_24, aI_202, sI_202, gR_189_25, aI_203, sI_203, gR_189_29, aI_204, sI_204, gR_189_32, aI_205, sI_205, gR_189_35, aI_206, sI_206, pZ_189, gL_189, pL_189, hσ, e60j]
  refine W_bH (W_imp (m_makes b1 (by omega) (σ_Rw hσ b1) hPj b3 (by omega)) ?_)
  rintro _ ⟨z1, rfl, c1, c2⟩
  have c1 : Md z1 (bσ σ j) := c1
  generalize bσ σ j = y at *
  have e12 : z1 189 12 = y.1 := c1.1
  simp (disch := first | assumption | omega) only [↓b_hid, bH_some, ↓hid_W, W_some, I3_a, I3_s, I3_m, I3_n, I3_l, I3_lt, I3_le, I3_e, I3_dv, I3_rm, I3_mx, I3_mn, I3_ab, cI, bI_0, bI_1, rZ_b, up_same, up_row, up_col, xr_some, LQ_r, LQ_l, Int.sub_self, Int.add_zero, Int.zero_add, Int.sub_zero, Int.neg_neg, not_true_eq_false, not_false_eq_true, Int.add_sub_cancel, ↓ite_iH, iH_t, iH_f, bH_iH, ↓bH_bind, xr_iH, ↓xr_bind, W_iH, WI_t, WI_f, gI_189, pI_189, iO_189, gR_189_0, aI_190, sI_190, gR_189_1, aI_191, sI_191, gR_189_3, aI_192, gR_189_10, aI_193, sI_193, gR_189_11, aI_194, sI_194, gR_189_13, aI_195, sI_195, gR_189_15, aI_196, sI_196, gR_189_17, aI_197, sI_197, gR_189_18, aI_198, sI_198, gR_189_19, aI_199, sI_199, gR_189_20, aI_200, sI_200, gR_189_23, aI_201, gR_189_24, aI_202, sI_202, gR_189_25, aI_203, sI_203, gR_189_29, aI_204, sI_204, gR_189_32, aI_205, sI_205, gR_189_35, aI_206, sI_206, pZ_189, gL_189, pL_189, e12]
  unfold f_X12_collides_39
  refine lp_W (fun n st => ∃ (k : Nat) (z' : Nat → Int → Int), st = (189, I3 i, I3 o, I3 k, M p z' l) ∧ (k : Int) ≤ y.1 ∧ n = y.1.toNat - k ∧ (∀ c, c ≠ 196 → z' c = up z1 189 16 y.1 c) ∧ ∀ m, 0 ≤ m → m < (k : Int) → z' 196 m = y.2 m) (fun n st hst => ?_) ⟨0, _, rfl, by omega, rfl, fun _ _ => rfl, fun m m0 m1 => by omega⟩
  obtain ⟨k, z2, rfl, hk, rfl, hF, hO⟩ := hst
  have e189 : z2 189 = up z1 189 16 y.1 189 := hF 189 (by decide)
  have e12' : z2 189 12 = y.1 := by rw [e189, up_col (by decide)]; exact e12
  unfold f_X12_collides_39_b
  by_cases hky : (k : Int) < y.1
  · have e194 : z2 194 k = y.2 k := by rw [hF 194 (by decide), up_row (by decide)]; exact c1.2 k (by omega) hky
    simp (disch := first | assumption | omega) only [↓b_hid, bH_some, ↓hid_W, W_some, I3_a, I3_s, I3_m, I3_n, I3_l, I3_lt, I3_le, I3_e, I3_dv, I3_rm, I3_mx, I3_mn, I3_ab, cI, bI_0, bI_1, rZ_b, up_same, up_row, up_col, xr_some, LQ_r, LQ_l, Int.sub_self, Int.add_zero, Int.zero_add, Int.sub_zero, Int.neg_neg, not_true_eq_false, not_false_eq_true, Int.add_sub_cancel, ↓ite_iH, iH_t, iH_f, bH_iH, ↓bH_bind, xr_iH, ↓xr_bind, W_iH, WI_t, WI_f, gI_189, pI_189, iO_189, gR_189_0, aI_190, sI_190, gR_189_1, aI_191, sI_191, gR_189_3, aI_192, gR_189_10, aI_193, sI_193, gR_189_11, aI_194, sI_194, gR_189_13, aI_195, sI_195, gR_189_15, aI_196, sI_196, gR_189_17, aI_197, sI_197, gR_189_18, aI_198, sI_198, gR_189_19, aI_199, sI_199, gR_189_20, aI_200, sI_200, gR_189_23, aI_201, gR_189_24, aI_202, sI_202, gR_189_25, aI_203, sI_203, gR_189_29, aI_204, sI_204, gR_189_32, aI_205, sI_205, gR_189_35, aI_206, sI_206, pZ_189, gL_189, pL_189, e12', e194, iH_pos, iH_neg, WI_pos, WI_neg]
    refine ⟨_, ?_, k + 1, _, by rw [Int.natCast_add]; rfl, by omega, rfl, fun c hc => by rw [up_row hc]; exact hF c hc, fun m m0 m1 => ?_⟩
    · omega
    · by_cases hmk : m = k
      · rw [hmk, up_same]
      · rw [up_col hmk]; exact hO m m0 (by omega)
  · have hky' : (k : Int) = y.1 := by omega
    simp (disch := first | assumption | omega) only [↓b_hid, bH_some, ↓hid_W, W_some, I3_a, I3_s, I3_m, I3_n, I3_l, I3_lt, I3_le, I3_e, I3_dv, I3_rm, I3_mx, I3_mn, I3_ab, cI, bI_0, bI_1, rZ_b, up_same, up_row, up_col, xr_some, LQ_r, LQ_l, Int.sub_self, Int.add_zero, Int.zero_add, Int.sub_zero, Int.neg_neg, not_true_eq_false, not_false_eq_true, Int.add_sub_cancel, ↓ite_iH, iH_t, iH_f, bH_iH, ↓bH_bind, xr_iH, ↓xr_bind, W_iH, WI_t, WI_f, gI_189, pI_189, iO_189, gR_189_0, aI_190, sI_190, gR_189_1, aI_191, sI_191, gR_189_3, aI_192, gR_189_10, aI_193, sI_193, gR_189_11, aI_194, sI_194, gR_189_13, aI_195, sI_195, gR_189_15, aI_196, sI_196, gR_189_17, aI_197, sI_197, gR_189_18, aI_198, sI_198, gR_189_19, aI_199, sI_199, gR_189_20, aI_200, sI_200, gR_189_23, aI_201, gR_189_24, aI_202, sI_202, gR_189_25, aI_203, sI_203, gR_189_29, aI_204, sI_204, gR_189_32, aI_205, sI_205, gR_189_35, aI_206, sI_206, pZ_189, gL_189, pL_189, e12', iH_pos, iH_neg, WI_pos, WI_neg]
    refine W_xr ?_
    simp only [LQ_r]
    have hQ2 : FrQ z z2 := FrQ_t (FrQ_K c2) (FrQ_t (FrQ_up (Or.inl ⟨rfl, by decide⟩) _) (FrQ_1 (a := 196) (by decide) hF))
    have t22 : z2 189 22 = z 189 22 := by rw [e189, up_col (by decide)]; exact c2.2 22 (by decide)
    have hσ2 : z2 190 = σ := hQ2.2.1.trans hσ
    have hOd : Od z2 y := ⟨by rw [e189, up_same], fun m m0 m1 => hO m m0 (by omega)⟩
    unfold f_X12_collides_68
    simp (disch := first | assumption | omega) only [↓b_hid, bH_some, ↓hid_W, W_some, I3_a, I3_s, I3_m, I3_n, I3_l, I3_lt, I3_le, I3_e, I3_dv, I3_rm, I3_mx, I3_mn, I3_ab, cI, bI_0, bI_1, rZ_b, up_same, up_row, up_col, xr_some, LQ_r, LQ_l, Int.sub_self, Int.add_zero, Int.zero_add, Int.sub_zero, Int.neg_neg, not_true_eq_false, not_false_eq_true, Int.add_sub_cancel, ↓ite_iH, iH_t, iH_f, bH_iH, ↓bH_bind, xr_iH, ↓xr_bind, W_iH, WI_t, WI_f, gI_189, pI_189, iO_189, gR_189_0, aI_190, sI_190, gR_189_1, aI_191, sI_191, gR_189_3, aI_192, gR_189_10, aI_193, sI_193, gR_189_11, aI_194, sI_194, gR_189_13, aI_195, sI_195, gR_189_15, aI_196, sI_196, gR_189_17, aI_197, sI_197, gR_189_18, aI_198, sI_198, gR_189_19, aI_199, sI_199, gR_189_20, aI_200, sI_200, gR_189_23, aI_201, gR_189_24, aI_202, sI_202, gR_189_25, aI_203, sI_203, gR_189_29, aI_204, sI_204, gR_189_32, aI_205, sI_205, gR_189_35, aI_206, sI_206, pZ_189, gL_189, pL_189, hσ2, e60i]
    refine W_bH (W_imp (m_makes a1 (by omega) (σ_Rw hσ2 a1) hPi a3 (by omega)) ?_)
    rintro _ ⟨z3, rfl, d1, d2⟩
    have d1 : Md z3 (bσ σ i) := d1
    generalize bσ σ i = x at *
    have f12 : z3 189 12 = x.1 := d1.1
    simp (disch := first | assumption | omega) only [↓b_hid, bH_some, ↓hid_W, W_some, I3_a, I3_s, I3_m, I3_n, I3_l, I3_lt, I3_le, I3_e, I3_dv, I3_rm, I3_mx, I3_mn, I3_ab, cI, bI_0, bI_1, rZ_b, up_same, up_row, up_col, xr_some, LQ_r, LQ_l, Int.sub_self, Int.add_zero, Int.zero_add, Int.sub_zero, Int.neg_neg, not_true_eq_false, not_false_eq_true, Int.add_sub_cancel, ↓ite_iH, iH_t, iH_f, bH_iH, ↓bH_bind, xr_iH, ↓xr_bind, W_iH, WI_t, WI_f, gI_189, pI_189, iO_189, gR_189_0, aI_190, sI_190, gR_189_1, aI_191, sI_191, gR_189_3, aI_192, gR_189_10, aI_193, sI_193, gR_189_11, aI_194, sI_194, gR_189_13, aI_195, sI_195, gR_189_15, aI_196, sI_196, gR_189_17, aI_197, sI_197, gR_189_18, aI_198, sI_198, gR_189_19, aI_199, sI_199, gR_189_20, aI_200, sI_200, gR_189_23, aI_201, gR_189_24, aI_202, sI_202, gR_189_25, aI_203, sI_203, gR_189_29, aI_204, sI_204, gR_189_32, aI_205, sI_205, gR_189_35, aI_206, sI_206, pZ_189, gL_189, pL_189, f12]
    unfold f_X12_collides_107
    refine lp_W (fun n st => ∃ (k : Nat) (z' : Nat → Int → Int), st = (189, I3 o, I3 k, M p z' l) ∧ (k : Int) ≤ x.1 ∧ n = x.1.toNat - k ∧ (∀ c, c ≠ 195 → z' c = up z3 189 14 x.1 c) ∧ ∀ m, 0 ≤ m → m < (k : Int) → z' 195 m = x.2 m) (fun n st hst => ?_) ⟨0, _, rfl, by omega, rfl, fun _ _ => rfl, fun m m0 m1 => by omega⟩
    obtain ⟨k, z4, rfl, hk, rfl, hF4, hO4⟩ := hst
    have f189 : z4 189 = up z3 189 14 x.1 189 := hF4 189 (by decide)
    have f12' : z4 189 12 = x.1 := by rw [f189, up_col (by decide)]; exact f12
    unfold f_X12_collides_107_b
    by_cases hkx : (k : Int) < x.1
    · have f194 : z4 194 k = x.2 k := by rw [hF4 194 (by decide), up_row (by decide)]; exact d1.2 k (by omega) hkx
      simp (disch := first | assumption | omega) only [↓b_hid, bH_some, ↓hid_W, W_some, I3_a, I3_s, I3_m, I3_n, I3_l, I3_lt, I3_le, I3_e, I3_dv, I3_rm, I3_mx, I3_mn, I3_ab, cI, bI_0, bI_1, rZ_b, up_same, up_row, up_col, xr_some, LQ_r, LQ_l, Int.sub_self, Int.add_zero, Int.zero_add, Int.sub_zero, Int.neg_neg, not_true_eq_false, not_false_eq_true, Int.add_sub_cancel, ↓ite_iH, iH_t, iH_f, bH_iH, ↓bH_bind, xr_iH, ↓xr_bind, W_iH, WI_t, WI_f, gI_189, pI_189, iO_189, gR_189_0, aI_190, sI_190, gR_189_1, aI_191, sI_191, gR_189_3, aI_192, gR_189_10, aI_193, sI_193, gR_189_11, aI_194, sI_194, gR_189_13, aI_195, sI_195, gR_189_15, aI_196, sI_196, gR_189_17, aI_197, sI_197, gR_189_18, aI_198, sI_198, gR_189_19, aI_199, sI_199, gR_189_20, aI_200, sI_200, gR_189_23, aI_201, gR_189_24, aI_202, sI_202, gR_189_25, aI_203, sI_203, gR_189_29, aI_204, sI_204, gR_189_32, aI_205, sI_205, gR_189_35, aI_206, sI_206, pZ_189, gL_189, pL_189, f12', f194, iH_pos, iH_neg, WI_pos, WI_neg]
      refine ⟨_, ?_, k + 1, _, by rw [Int.natCast_add]; rfl, by omega, rfl, fun c hc => by rw [up_row hc]; exact hF4 c hc, fun m m0 m1 => ?_⟩
      · omega
      · by_cases hmk : m = k
        · rw [hmk, up_same]
        · rw [up_col hmk]; exact hO4 m m0 (by omega)
    · have hkx' : (k : Int) = x.1 := by omega
      have hQ4 : FrQ z2 z4 := FrQ_t (FrQ_K d2) (FrQ_t (FrQ_up (Or.inl ⟨rfl, by decide⟩) _) (FrQ_1 (a := 195) (by decide) hF4))
      have t22' : z4 189 22 = z 189 22 := by rw [f189, up_col (by decide), d2.2 22 (by decide)]; exact t22
      have hLd : Ld z4 x.1 x.2 := ⟨by rw [f189, up_same], fun m m0 m1 => hO4 m m0 (by omega)⟩
      have hOd4 : Od z4 y := by
        refine ⟨?_, fun m m0 m1 => ?_⟩
        · rw [f189, up_col (by decide), d2.2 16 (by decide)]; exact hOd.1
        · rw [hF4 196 (by decide), up_row (by decide), d2.1 196 (by decide) (by decide)]; exact hOd.2 m m0 m1
      simp (disch := first | assumption | omega) only [↓b_hid, bH_some, ↓hid_W, W_some, I3_a, I3_s, I3_m, I3_n, I3_l, I3_lt, I3_le, I3_e, I3_dv, I3_rm, I3_mx, I3_mn, I3_ab, cI, bI_0, bI_1, rZ_b, up_same, up_row, up_col, xr_some, LQ_r, LQ_l, Int.sub_self, Int.add_zero, Int.zero_add, Int.sub_zero, Int.neg_neg, not_true_eq_false, not_false_eq_true, Int.add_sub_cancel, ↓ite_iH, iH_t, iH_f, bH_iH, ↓bH_bind, xr_iH, ↓xr_bind, W_iH, WI_t, WI_f, gI_189, pI_189, iO_189, gR_189_0, aI_190, sI_190, gR_189_1, aI_191, sI_191, gR_189_3, aI_192, gR_189_10, aI_193, sI_193, gR_189_11, aI_194, sI_194, gR_189_13, aI_195, sI_195, gR_189_15, aI_196, sI_196, gR_189_17, aI_197, sI_197, gR_189_18, aI_198, sI_198, gR_189_19, aI_199, sI_199, gR_189_20, aI_200, sI_200, gR_189_23, aI_201, gR_189_24, aI_202, sI_202, gR_189_25, aI_203, sI_203, gR_189_29, aI_204, sI_204, gR_189_32, aI_205, sI_205, gR_189_35, aI_206, sI_206, pZ_189, gL_189, pL_189, f12', iH_pos, iH_neg, WI_pos, WI_neg]
      refine W_xr ?_
      simp only [LQ_r]
      unfold f_X12_collides_136
      simp (disch := first | assumption | omega) only [↓b_hid, bH_some, ↓hid_W, W_some, I3_a, I3_s, I3_m, I3_n, I3_l, I3_lt, I3_le, I3_e, I3_dv, I3_rm, I3_mx, I3_mn, I3_ab, cI, bI_0, bI_1, rZ_b, up_same, up_row, up_col, xr_some, LQ_r, LQ_l, Int.sub_self, Int.add_zero, Int.zero_add, Int.sub_zero, Int.neg_neg, not_true_eq_false, not_false_eq_true, Int.add_sub_cancel, ↓ite_iH, iH_t, iH_f, bH_iH, ↓bH_bind, xr_iH, ↓xr_bind, W_iH, WI_t, WI_f, gI_189, pI_189, iO_189, gR_189_0, aI_190, sI_190, gR_189_1, aI_191, sI_191, gR_189_3, aI_192, gR_189_10, aI_193, sI_193, gR_189_11, aI_194, sI_194, gR_189_13, aI_195, sI_195, gR_189_15, aI_196, sI_196, gR_189_17, aI_197, sI_197, gR_189_18, aI_198, sI_198, gR_189_19, aI_199, sI_199, gR_189_20, aI_200, sI_200, gR_189_23, aI_201, gR_189_24, aI_202, sI_202, gR_189_25, aI_203, sI_203, gR_189_29, aI_204, sI_204, gR_189_32, aI_205, sI_205, gR_189_35, aI_206, sI_206, pZ_189, gL_189, pL_189]
      refine W_bH (W_imp (m_overlays (a := ((x.1 + 1) / 2).toNat) (b := ((y.1 + 1) / 2).toNat) gi gj ho (by omega) (by omega) (by omega) (by omega) hLd hOd4) ?_)
      rintro _ ⟨z5, rfl, g1, g2⟩
      simp (disch := first | assumption | omega) only [↓b_hid, bH_some, ↓hid_W, W_some, I3_a, I3_s, I3_m, I3_n, I3_l, I3_lt, I3_le, I3_e, I3_dv, I3_rm, I3_mx, I3_mn, I3_ab, cI, bI_0, bI_1, rZ_b, up_same, up_row, up_col, xr_some, LQ_r, LQ_l, Int.sub_self, Int.add_zero, Int.zero_add, Int.sub_zero, Int.neg_neg, not_true_eq_false, not_false_eq_true, Int.add_sub_cancel, ↓ite_iH, iH_t, iH_f, bH_iH, ↓bH_bind, xr_iH, ↓xr_bind, W_iH, WI_t, WI_f]
      exact ⟨z5, rfl, g1, FrQ_t hQ2 (FrQ_t hQ4 (FrQ_V g2)), (g2.2 22 (by decide)).trans t22'⟩
set_option maxHeartbeats 4000000 in
theorem m_isLike {σ : Int → Int} {s : Nat} {D : List Int} (hσ : z 190 = σ) (hV : V σ) (hs : s < 3) (hL : Lo z D) (htol : z 189 22 = σ 2) (hD : ∀ v ∈ D, 1 ≤ v ∧ v ≤ 13000000) (hlen : D.length ≤ 400) : WP (f_X12_isLike 189 (I3 s) (M p z l)) (fun r => ∃ v, r = (I3 v, M p z l) ∧ ((v = 1 ∧ lkD (σ (83 + s)) (dσ σ s) (σ 2) D) ∨ (v = 0 ∧ ¬lkD (σ (83 + s)) (dσ σ s) (σ 2) D))) := by
  have ht := σ_tr hV hs
  have htl := hV.2.2.1
  have e14 : z 189 14 = D.length := hL.1
  have key : ∀ v : Int, (v = 0 ∨ v = 1) → (v = 1 ↔ σ (83 + s) = D.length) → WP (f_X12_isLike_21 189 (I3 s) (I3 v) (M p z l)) (fun r => ∃ v, r = (I3 v, M p z l) ∧ ((v = 1 ∧ lkD (σ (83 + s)) (dσ σ s) (σ 2) D) ∨ (v = 0 ∧ ¬lkD (σ (83 + s)) (dσ σ s) (σ 2) D))) := by
    intro v hv hvn
    unfold f_X12_isLike_21 f_X12_isLike_24
    refine lp_W (fun n st => ∃ (v : Int) (k : Nat), st = (189, I3 s, I3 v, I3 k, M p z l) ∧ k ≤ D.length ∧ n = D.length - k ∧ (v = 0 ∨ v = 1) ∧ (v = 1 ↔ (σ (83 + s) = D.length ∧ ∀ j, 0 ≤ j → j < (k : Int) → mt (dσ σ s j) (lf D j) (σ 2)))) (fun n st hst => ?_) ⟨v, 0, rfl, by omega, rfl, hv, ⟨fun h => ⟨hvn.mp h, fun j j0 j1 => by omega⟩, fun h => hvn.mpr h.1⟩⟩
    obtain ⟨v, k, rfl, hk, rfl, hv, hvk⟩ := hst
    have hZ : ∀ μ, rZ (I3 v) μ = some (I3 v, μ) := by
      intro μ
      unfold rZ; rw [if_pos]
      rcases hv with rfl | rfl
      · exact Or.inl rfl
      · exact Or.inr rfl
    unfold f_X12_isLike_24_b
    by_cases hkn : k < D.length
    · by_cases hv0 : v = 0
      · subst hv0
        simp (disch := first | assumption | omega) only [↓b_hid, bH_some, ↓hid_W, W_some, I3_a, I3_s, I3_m, I3_n, I3_l, I3_lt, I3_le, I3_e, I3_dv, I3_rm, I3_mx, I3_mn, I3_ab, cI, bI_0, bI_1, rZ_b, up_same, up_row, up_col, xr_some, LQ_r, LQ_l, Int.sub_self, Int.add_zero, Int.zero_add, Int.sub_zero, Int.neg_neg, not_true_eq_false, not_false_eq_true, Int.add_sub_cancel, ↓ite_iH, iH_t, iH_f, bH_iH, ↓bH_bind, xr_iH, ↓xr_bind, W_iH, WI_t, WI_f, gI_189, pI_189, iO_189, gR_189_0, aI_190, sI_190, gR_189_1, aI_191, sI_191, gR_189_3, aI_192, gR_189_10, aI_193, sI_193, gR_189_11, aI_194, sI_194, gR_189_13, aI_195, sI_195, gR_189_15, aI_196, sI_196, gR_189_17, aI_197, sI_197, gR_189_18, aI_198, sI_198, gR_189_19, aI_199, sI_199, gR_189_20, aI_200, sI_200, gR_189_23, aI_201, gR_189_24, aI_202, sI_202, gR_189_25, aI_203, sI_203, gR_189_29, aI_204, sI_204, gR_189_32, aI_205, sI_205, gR_189_35, aI_206, sI_206, pZ_189, gL_189, pL_189, e14, f_X12_isLike_64, hZ, iH_pos, iH_neg, WI_pos, WI_neg]
        refine ⟨0, rfl, Or.inr ⟨rfl, fun hl => ?_⟩⟩
        have := hvk.mpr ⟨hl.1, fun j j0 j1 => hl.2 j j0 (by have := hl.1; omega)⟩
        omega
      · have hv1 : v = 1 := by omega
        obtain ⟨hn, hm⟩ := hvk.mp hv1
        have er : σ (86 + 200 * s + k) = dσ σ s k := rfl
        have ed : z 195 k = lf D k := hL.2 k (by omega) (by omega)
        have hdk := ht.2 k (by omega) (by omega)
        have hlk := hD _ (lf_mem (D := D) (i := k) (by omega) (by omega))
        have gm := m_matches (p := p) (l := l) (x := dσ σ s k) (len := lf D k) htol (by omega) (by omega) (by omega) (by omega) htl.1 htl.2
        simp (disch := first | assumption | omega) only [↓b_hid, bH_some, ↓hid_W, W_some, I3_a, I3_s, I3_m, I3_n, I3_l, I3_lt, I3_le, I3_e, I3_dv, I3_rm, I3_mx, I3_mn, I3_ab, cI, bI_0, bI_1, rZ_b, up_same, up_row, up_col, xr_some, LQ_r, LQ_l, Int.sub_self, Int.add_zero, Int.zero_add, Int.sub_zero, Int.neg_neg, not_true_eq_false, not_false_eq_true, Int.add_sub_cancel, ↓ite_iH, iH_t, iH_f, bH_iH, ↓bH_bind, xr_iH, ↓xr_bind, W_iH, WI_t, WI_f, gI_189, pI_189, iO_189, gR_189_0, aI_190, sI_190, gR_189_1, aI_191, sI_191, gR_189_3, aI_192, gR_189_10, aI_193, sI_193, gR_189_11, aI_194, sI_194, gR_189_13, aI_195, sI_195, gR_189_15, aI_196, sI_196, gR_189_17, aI_197, sI_197, gR_189_18, aI_198, sI_198, gR_189_19, aI_199, sI_199, gR_189_20, aI_200, sI_200, gR_189_23, aI_201, gR_189_24, aI_202, sI_202, gR_189_25, aI_203, sI_203, gR_189_29, aI_204, sI_204, gR_189_32, aI_205, sI_205, gR_189_35, aI_206, sI_206, pZ_189, gL_189, pL_189, e14, m_trainAt, hσ, er, ed, gm, iH_pos, iH_neg, WI_pos, WI_neg]
        refine ⟨_, ?_, _, k + 1, by rw [Int.natCast_add]; rfl, by omega, rfl, ?_, ?_⟩
        · omega
        · have := bI_r (mt (dσ σ s k) (lf D k) (σ 2)); omega
        · constructor
          · intro h
            have hc : mt (dσ σ s k) (lf D k) (σ 2) := by
              by_cases hc : mt (dσ σ s k) (lf D k) (σ 2)
              · exact hc
              · rw [bI_f hc] at h; omega
            refine ⟨hn, fun j j0 j1 => ?_⟩
            by_cases hj : j = k
            · rw [hj]; exact hc
            · exact hm j j0 (by omega)
          · intro h
            exact bI_t (h.2 k (by omega) (by omega))
    · have hkn' : k = D.length := by omega
      simp (disch := first | assumption | omega) only [↓b_hid, bH_some, ↓hid_W, W_some, I3_a, I3_s, I3_m, I3_n, I3_l, I3_lt, I3_le, I3_e, I3_dv, I3_rm, I3_mx, I3_mn, I3_ab, cI, bI_0, bI_1, rZ_b, up_same, up_row, up_col, xr_some, LQ_r, LQ_l, Int.sub_self, Int.add_zero, Int.zero_add, Int.sub_zero, Int.neg_neg, not_true_eq_false, not_false_eq_true, Int.add_sub_cancel, ↓ite_iH, iH_t, iH_f, bH_iH, ↓bH_bind, xr_iH, ↓xr_bind, W_iH, WI_t, WI_f, gI_189, pI_189, iO_189, gR_189_0, aI_190, sI_190, gR_189_1, aI_191, sI_191, gR_189_3, aI_192, gR_189_10, aI_193, sI_193, gR_189_11, aI_194, sI_194, gR_189_13, aI_195, sI_195, gR_189_15, aI_196, sI_196, gR_189_17, aI_197, sI_197, gR_189_18, aI_198, sI_198, gR_189_19, aI_199, sI_199, gR_189_20, aI_200, sI_200, gR_189_23, aI_201, gR_189_24, aI_202, sI_202, gR_189_25, aI_203, sI_203, gR_189_29, aI_204, sI_204, gR_189_32, aI_205, sI_205, gR_189_35, aI_206, sI_206, pZ_189, gL_189, pL_189, e14, f_X12_isLike_64, hZ, iH_pos, iH_neg, WI_pos, WI_neg]
      refine ⟨v, rfl, ?_⟩
      rcases hv with rfl | rfl
      · refine Or.inr ⟨rfl, fun hl => ?_⟩
        have := hvk.mpr ⟨hl.1, fun j j0 j1 => hl.2 j j0 (by have := hl.1; omega)⟩
        omega
      · obtain ⟨h1, h2⟩ := hvk.mp rfl
        exact Or.inl ⟨rfl, h1, fun j j0 j1 => h2 j j0 (by omega)⟩
  unfold f_X12_isLike
  by_cases hn : σ (83 + s) = D.length
  · have := key 1 (Or.inr rfl) ⟨fun _ => hn, fun _ => rfl⟩
    simp (disch := first | assumption | omega) only [↓b_hid, bH_some, ↓hid_W, W_some, I3_a, I3_s, I3_m, I3_n, I3_l, I3_lt, I3_le, I3_e, I3_dv, I3_rm, I3_mx, I3_mn, I3_ab, cI, bI_0, bI_1, rZ_b, up_same, up_row, up_col, xr_some, LQ_r, LQ_l, Int.sub_self, Int.add_zero, Int.zero_add, Int.sub_zero, Int.neg_neg, not_true_eq_false, not_false_eq_true, Int.add_sub_cancel, ↓ite_iH, iH_t, iH_f, bH_iH, ↓bH_bind, xr_iH, ↓xr_bind, W_iH, WI_t, WI_f, gI_189, pI_189, iO_189, gR_189_0, aI_190, sI_190, gR_189_1, aI_191, sI_191, gR_189_3, aI_192, gR_189_10, aI_193, sI_193, gR_189_11, aI_194, sI_194, gR_189_13, aI_195, sI_195, gR_189_15, aI_196, sI_196, gR_189_17, aI_197, sI_197, gR_189_18, aI_198, sI_198, gR_189_19, aI_199, sI_199, gR_189_20, aI_200, sI_200, gR_189_23, aI_201, gR_189_24, aI_202, sI_202, gR_189_25, aI_203, sI_203, gR_189_29, aI_204, sI_204, gR_189_32, aI_205, sI_205, gR_189_35, aI_206, sI_206, pZ_189, gL_189, pL_189, hσ, e14, iH_pos, iH_neg, WI_pos, WI_neg]
    exact this
  · have := key 0 (Or.inl rfl) ⟨fun h => absurd h (by decide), fun h => absurd h hn⟩
    simp (disch := first | assumption | omega) only [↓b_hid, bH_some, ↓hid_W, W_some, I3_a, I3_s, I3_m, I3_n, I3_l, I3_lt, I3_le, I3_e, I3_dv, I3_rm, I3_mx, I3_mn, I3_ab, cI, bI_0, bI_1, rZ_b, up_same, up_row, up_col, xr_some, LQ_r, LQ_l, Int.sub_self, Int.add_zero, Int.zero_add, Int.sub_zero, Int.neg_neg, not_true_eq_false, not_false_eq_true, Int.add_sub_cancel, ↓ite_iH, iH_t, iH_f, bH_iH, ↓bH_bind, xr_iH, ↓xr_bind, W_iH, WI_t, WI_f, gI_189, pI_189, iO_189, gR_189_0, aI_190, sI_190, gR_189_1, aI_191, sI_191, gR_189_3, aI_192, gR_189_10, aI_193, sI_193, gR_189_11, aI_194, sI_194, gR_189_13, aI_195, sI_195, gR_189_15, aI_196, sI_196, gR_189_17, aI_197, sI_197, gR_189_18, aI_198, sI_198, gR_189_19, aI_199, sI_199, gR_189_20, aI_200, sI_200, gR_189_23, aI_201, gR_189_24, aI_202, sI_202, gR_189_25, aI_203, sI_203, gR_189_29, aI_204, sI_204, gR_189_32, aI_205, sI_205, gR_189_35, aI_206, sI_206, pZ_189, gL_189, pL_189, hσ, e14, iH_pos, iH_neg, WI_pos, WI_neg]
    exact this
set_option maxHeartbeats 4000000 in
theorem m_explain {σ : Int → Int} {s step part : Int} (hσ : z 190 = σ) (hV : V σ) (hs : -2147483648 ≤ s ∧ s < 2147483648) (hst : -2147483648 ≤ step ∧ step < 2147483648) (hpt : -2147483648 ≤ part ∧ part < 2147483648) : WP (f_X12_explain 189 (I3 s) (I3 step) (I3 part) (M p z l)) (fun r => ∃ z', r = (I3 (A_explain σ s step part), M p z' l) ∧ FrQ z z') := by
  have h58 := hV.2.2.2.2.1
  have htl := hV.2.2.1
  unfold f_X12_explain A_explain
  by_cases h1 : 0 ≤ s ∧ s ≤ 2
  case neg =>
    rw [if_neg h1]
    simp (disch := first | assumption | omega) only [↓b_hid, bH_some, ↓hid_W, W_some, I3_a, I3_s, I3_m, I3_n, I3_l, I3_lt, I3_le, I3_e, I3_dv, I3_rm, I3_mx, I3_mn, I3_ab, cI, bI_0, bI_1, rZ_b, up_same, up_row, up_col, xr_some, LQ_r, LQ_l, Int.sub_self, Int.add_zero, Int.zero_add, Int.sub_zero, Int.neg_neg, not_true_eq_false, not_false_eq_true, Int.add_sub_cancel, ↓ite_iH, iH_t, iH_f, bH_iH, ↓bH_bind, xr_iH, ↓xr_bind, W_iH, WI_t, WI_f, m_isSlot, bI_f, iH_pos, iH_neg, WI_pos, WI_neg]
    exact ⟨z, rfl, FrQ_r z⟩
  by_cases h2 : 50 ≤ step ∧ step ≤ 2000
  case neg =>
    rw [if_pos h1, if_neg h2]
    simp (disch := first | assumption | omega) only [↓b_hid, bH_some, ↓hid_W, W_some, I3_a, I3_s, I3_m, I3_n, I3_l, I3_lt, I3_le, I3_e, I3_dv, I3_rm, I3_mx, I3_mn, I3_ab, cI, bI_0, bI_1, rZ_b, up_same, up_row, up_col, xr_some, LQ_r, LQ_l, Int.sub_self, Int.add_zero, Int.zero_add, Int.sub_zero, Int.neg_neg, not_true_eq_false, not_false_eq_true, Int.add_sub_cancel, ↓ite_iH, iH_t, iH_f, bH_iH, ↓bH_bind, xr_iH, ↓xr_bind, W_iH, WI_t, WI_f, m_isSlot, m_in, bI_f, bI_t, iH_pos, iH_neg, WI_pos, WI_neg]
    exact ⟨z, rfl, FrQ_r z⟩
  by_cases h3 : 0 ≤ part ∧ part ≤ 2
  case neg =>
    rw [if_pos h1, if_pos h2, if_neg h3]
    simp (disch := first | assumption | omega) only [↓b_hid, bH_some, ↓hid_W, W_some, I3_a, I3_s, I3_m, I3_n, I3_l, I3_lt, I3_le, I3_e, I3_dv, I3_rm, I3_mx, I3_mn, I3_ab, cI, bI_0, bI_1, rZ_b, up_same, up_row, up_col, xr_some, LQ_r, LQ_l, Int.sub_self, Int.add_zero, Int.zero_add, Int.sub_zero, Int.neg_neg, not_true_eq_false, not_false_eq_true, Int.add_sub_cancel, ↓ite_iH, iH_t, iH_f, bH_iH, ↓bH_bind, xr_iH, ↓xr_bind, W_iH, WI_t, WI_f, m_isSlot, m_in, bI_f, bI_t, iH_pos, iH_neg, WI_pos, WI_neg]
    exact ⟨z, rfl, FrQ_r z⟩
  rw [if_pos h1, if_pos h2, if_pos h3]
  have hs3 : s.toNat < 3 := by omega
  have hss : s = ((s.toNat : Nat) : Int) := by omega
  simp (disch := first | assumption | omega) only [↓b_hid, bH_some, ↓hid_W, W_some, I3_a, I3_s, I3_m, I3_n, I3_l, I3_lt, I3_le, I3_e, I3_dv, I3_rm, I3_mx, I3_mn, I3_ab, cI, bI_0, bI_1, rZ_b, up_same, up_row, up_col, xr_some, LQ_r, LQ_l, Int.sub_self, Int.add_zero, Int.zero_add, Int.sub_zero, Int.neg_neg, not_true_eq_false, not_false_eq_true, Int.add_sub_cancel, ↓ite_iH, iH_t, iH_f, bH_iH, ↓bH_bind, xr_iH, ↓xr_bind, W_iH, WI_t, WI_f, gI_189, pI_189, iO_189, gR_189_0, aI_190, sI_190, gR_189_1, aI_191, sI_191, gR_189_3, aI_192, gR_189_10, aI_193, sI_193, gR_189_11, aI_194, sI_194, gR_189_13, aI_195, sI_195, gR_189_15, aI_196, sI_196, gR_189_17, aI_197, sI_197, gR_189_18, aI_198, sI_198, gR_189_19, aI_199, sI_199, gR_189_20, aI_200, sI_200, gR_189_23, aI_201, gR_189_24, aI_202, sI_202, gR_189_25, aI_203, sI_203, gR_189_29, aI_204, sI_204, gR_189_32, aI_205, sI_205, gR_189_35, aI_206, sI_206, pZ_189, gL_189, pL_189, m_isSlot, m_in, bI_t, hσ, iH_pos, iH_neg, WI_pos, WI_neg]
  generalize s.toNat = sn at *
  subst hss
  generalize hz1 : up z 189 22 (σ 2) = z1
  have hQ1 : FrQ z z1 := by rw [← hz1]; exact FrQ_up (Or.inl ⟨rfl, by decide⟩) _
  have t1 : z1 189 22 = σ 2 := by rw [← hz1, up_same]
  generalize hnB : (σ 58).toNat = nB
  have hnB' : σ 58 = (nB : Int) := by omega
  have hA : exA σ sn step = exI (eP σ sn step) nB nB 0 := by unfold exA; rw [hnB]
  rw [hA]
  unfold f_X12_explain_43
  refine lp_W (fun n st => ∃ (i : Nat) (z' : Nat → Int → Int), st = (189, I3 sn, I3 step, I3 part, I3 i, M p z' l) ∧ i ≤ nB ∧ n = nB - i ∧ (FrQ z z' ∧ z' 189 22 = σ 2) ∧ exI (eP σ sn step) nB nB 0 = exI (eP σ sn step) nB (nB - i) i) (fun n st hst => ?_) ⟨0, z1, rfl, by omega, rfl, ⟨hQ1, t1⟩, rfl⟩
  obtain ⟨i, z2, rfl, hi, rfl, ⟨hF, ht⟩, hE⟩ := hst
  have hσ2 : z2 190 = σ := hF.2.1.trans hσ
  unfold f_X12_explain_43_b
  by_cases hin : i < nB
  · obtain ⟨mi, hmi⟩ : ∃ m, nB - i = m + 1 := ⟨nB - i - 1, by omega⟩
    have hmi2 : nB - (i + 1) = mi := by omega
    rw [hmi, exI] at hE
    simp (disch := first | assumption | omega) only [↓b_hid, bH_some, ↓hid_W, W_some, I3_a, I3_s, I3_m, I3_n, I3_l, I3_lt, I3_le, I3_e, I3_dv, I3_rm, I3_mx, I3_mn, I3_ab, cI, bI_0, bI_1, rZ_b, up_same, up_row, up_col, xr_some, LQ_r, LQ_l, Int.sub_self, Int.add_zero, Int.zero_add, Int.sub_zero, Int.neg_neg, not_true_eq_false, not_false_eq_true, Int.add_sub_cancel, ↓ite_iH, iH_t, iH_f, bH_iH, ↓bH_bind, xr_iH, ↓xr_bind, W_iH, WI_t, WI_f, gI_189, pI_189, iO_189, gR_189_0, aI_190, sI_190, gR_189_1, aI_191, sI_191, gR_189_3, aI_192, gR_189_10, aI_193, sI_193, gR_189_11, aI_194, sI_194, gR_189_13, aI_195, sI_195, gR_189_15, aI_196, sI_196, gR_189_17, aI_197, sI_197, gR_189_18, aI_198, sI_198, gR_189_19, aI_199, sI_199, gR_189_20, aI_200, sI_200, gR_189_23, aI_201, gR_189_24, aI_202, sI_202, gR_189_25, aI_203, sI_203, gR_189_29, aI_204, sI_204, gR_189_32, aI_205, sI_205, gR_189_35, aI_206, sI_206, pZ_189, gL_189, pL_189, hσ2, hnB', iH_pos, iH_neg, WI_pos, WI_neg]
    unfold f_X12_explain_58
    refine lp_W (fun n st => ∃ (j : Nat) (z' : Nat → Int → Int), st = (189, I3 sn, I3 step, I3 part, I3 i, I3 j, M p z' l) ∧ j ≤ nB ∧ n = nB - j ∧ (FrQ z z' ∧ z' 189 22 = σ 2) ∧ exJ (eP σ sn step i) nB 0 = exJ (eP σ sn step i) (nB - j) j) (fun n st hst => ?_) ⟨0, z2, rfl, by omega, rfl, ⟨hF, ht⟩, rfl⟩
    obtain ⟨j, z3, rfl, hj, rfl, ⟨hF3, ht3⟩, hE3⟩ := hst
    have hσ3 : z3 190 = σ := hF3.2.1.trans hσ
    unfold f_X12_explain_58_b
    by_cases hjn : j < nB
    · obtain ⟨mj, hmj⟩ : ∃ m, nB - j = m + 1 := ⟨nB - j - 1, by omega⟩
      have hmj2 : nB - (j + 1) = mj := by omega
      rw [hmj, exJ] at hE3
      simp (disch := first | assumption | omega) only [↓b_hid, bH_some, ↓hid_W, W_some, I3_a, I3_s, I3_m, I3_n, I3_l, I3_lt, I3_le, I3_e, I3_dv, I3_rm, I3_mx, I3_mn, I3_ab, cI, bI_0, bI_1, rZ_b, up_same, up_row, up_col, xr_some, LQ_r, LQ_l, Int.sub_self, Int.add_zero, Int.zero_add, Int.sub_zero, Int.neg_neg, not_true_eq_false, not_false_eq_true, Int.add_sub_cancel, ↓ite_iH, iH_t, iH_f, bH_iH, ↓bH_bind, xr_iH, ↓xr_bind, W_iH, WI_t, WI_f, gI_189, pI_189, iO_189, gR_189_0, aI_190, sI_190, gR_189_1, aI_191, sI_191, gR_189_3, aI_192, gR_189_10, aI_193, sI_193, gR_189_11, aI_194, sI_194, gR_189_13, aI_195, sI_195, gR_189_15, aI_196, sI_196, gR_189_17, aI_197, sI_197, gR_189_18, aI_198, sI_198, gR_189_19, aI_199, sI_199, gR_189_20, aI_200, sI_200, gR_189_23, aI_201, gR_189_24, aI_202, sI_202, gR_189_25, aI_203, sI_203, gR_189_29, aI_204, sI_204, gR_189_32, aI_205, sI_205, gR_189_35, aI_206, sI_206, pZ_189, gL_189, pL_189, hσ3, hnB', iH_pos, iH_neg, WI_pos, WI_neg]
      unfold f_X12_explain_73
      refine lp_W (fun n st => ∃ (k : Nat) (z' : Nat → Int → Int), st = (189, I3 sn, I3 step, I3 part, I3 i, I3 j, I3 k, M p z' l) ∧ k ≤ 30 ∧ n = 30 - k ∧ (FrQ z z' ∧ z' 189 22 = σ 2) ∧ exK (eP σ sn step i j) 30 0 = exK (eP σ sn step i j) (30 - k) k) (fun n st hst => ?_) ⟨0, z3, rfl, by omega, rfl, ⟨hF3, ht3⟩, rfl⟩
      obtain ⟨k, z4, rfl, hk, rfl, ⟨hF4, ht4⟩, hE4⟩ := hst
      have hσ4 : z4 190 = σ := hF4.2.1.trans hσ
      unfold f_X12_explain_73_b
      by_cases hk30 : k < 30
      · have hm := mulR (k := k) (step := step) (by omega) (by omega) h2.1 h2.2
        obtain ⟨mk, hmk⟩ : ∃ m, 30 - k = m + 1 := ⟨29 - k, by omega⟩
        have hmk2 : 30 - (k + 1) = mk := by omega
        rw [hmk, exK_s _ mk] at hE4
        simp (disch := first | assumption | omega) only [↓b_hid, bH_some, ↓hid_W, W_some, I3_a, I3_s, I3_m, I3_n, I3_l, I3_lt, I3_le, I3_e, I3_dv, I3_rm, I3_mx, I3_mn, I3_ab, cI, bI_0, bI_1, rZ_b, up_same, up_row, up_col, xr_some, LQ_r, LQ_l, Int.sub_self, Int.add_zero, Int.zero_add, Int.sub_zero, Int.neg_neg, not_true_eq_false, not_false_eq_true, Int.add_sub_cancel, ↓ite_iH, iH_t, iH_f, bH_iH, ↓bH_bind, xr_iH, ↓xr_bind, W_iH, WI_t, WI_f, gI_189, pI_189, iO_189, gR_189_0, aI_190, sI_190, gR_189_1, aI_191, sI_191, gR_189_3, aI_192, gR_189_10, aI_193, sI_193, gR_189_11, aI_194, sI_194, gR_189_13, aI_195, sI_195, gR_189_15, aI_196, sI_196, gR_189_17, aI_197, sI_197, gR_189_18, aI_198, sI_198, gR_189_19, aI_199, sI_199, gR_189_20, aI_200, sI_200, gR_189_23, aI_201, gR_189_24, aI_202, sI_202, gR_189_25, aI_203, sI_203, gR_189_29, aI_204, sI_204, gR_189_32, aI_205, sI_205, gR_189_35, aI_206, sI_206, pZ_189, gL_189, pL_189, iH_pos, iH_neg, WI_pos, WI_neg]
        refine W_bH (W_imp (m_collides (i := i) (j := j) (o := k * step) hσ4 hV (by omega) (by omega) (by omega) (by omega) (by omega)) ?_)
        rintro _ ⟨z5, rfl, a1, a2, a3⟩
        have hF5 := FrQ_t hF4 a2
        have hσ5 : z5 190 = σ := hF5.2.1.trans hσ
        have gi := bσ_g hV (i := i) (by omega) (by omega)
        have gj := bσ_g hV (i := j) (by omega) (by omega)
        have ri := bσ_r hV (i := i) (by omega) (by omega)
        have rj := bσ_r hV (i := j) (by omega) (by omega)
        have hlen := colD_len (x := bσ σ i) (y := bσ σ j) (k * step)
        have hlen2 : (colD (bσ σ i) (bσ σ j) (k * step)).length ≤ 400 := by
          rw [if_pos (by omega), if_pos (by omega)] at hlen; omega
        simp (disch := first | assumption | omega) only [↓b_hid, bH_some, ↓hid_W, W_some, I3_a, I3_s, I3_m, I3_n, I3_l, I3_lt, I3_le, I3_e, I3_dv, I3_rm, I3_mx, I3_mn, I3_ab, cI, bI_0, bI_1, rZ_b, up_same, up_row, up_col, xr_some, LQ_r, LQ_l, Int.sub_self, Int.add_zero, Int.zero_add, Int.sub_zero, Int.neg_neg, not_true_eq_false, not_false_eq_true, Int.add_sub_cancel, ↓ite_iH, iH_t, iH_f, bH_iH, ↓bH_bind, xr_iH, ↓xr_bind, W_iH, WI_t, WI_f, gI_189, pI_189, iO_189, gR_189_0, aI_190, sI_190, gR_189_1, aI_191, sI_191, gR_189_3, aI_192, gR_189_10, aI_193, sI_193, gR_189_11, aI_194, sI_194, gR_189_13, aI_195, sI_195, gR_189_15, aI_196, sI_196, gR_189_17, aI_197, sI_197, gR_189_18, aI_198, sI_198, gR_189_19, aI_199, sI_199, gR_189_20, aI_200, sI_200, gR_189_23, aI_201, gR_189_24, aI_202, sI_202, gR_189_25, aI_203, sI_203, gR_189_29, aI_204, sI_204, gR_189_32, aI_205, sI_205, gR_189_35, aI_206, sI_206, pZ_189, gL_189, pL_189]
        refine W_bH (W_imp (m_isLike (s := sn) hσ5 hV hs3 a1 (a3.trans ht4) (colD_g gi gj (by omega)) hlen2) ?_)
        rintro _ ⟨v, rfl, b2⟩
        rcases b2 with ⟨rfl, hl⟩ | ⟨rfl, hl⟩
        · have hl : eP σ sn step i j k := hl
          rw [cif_t hl] at hE4
          rw [hE4, if_neg (by omega)] at hE3
          rw [hE3] at hE
          rw [if_neg (by simp only; omega)] at hE
          rw [hE]
          have hv : exV ((i : Int), (j : Int), (k : Int)) part step = if part = 0 then (i : Int) else if part = 1 then (j : Int) else k * step := by
            unfold exV; rw [if_neg (by simp only; omega)]
          rw [hv]
          by_cases p0 : part = 0
          · simp (disch := first | assumption | omega) only [↓b_hid, bH_some, ↓hid_W, W_some, I3_a, I3_s, I3_m, I3_n, I3_l, I3_lt, I3_le, I3_e, I3_dv, I3_rm, I3_mx, I3_mn, I3_ab, cI, bI_0, bI_1, rZ_b, up_same, up_row, up_col, xr_some, LQ_r, LQ_l, Int.sub_self, Int.add_zero, Int.zero_add, Int.sub_zero, Int.neg_neg, not_true_eq_false, not_false_eq_true, Int.add_sub_cancel, ↓ite_iH, iH_t, iH_f, bH_iH, ↓bH_bind, xr_iH, ↓xr_bind, W_iH, WI_t, WI_f, f_X12_explain_100, iH_pos, iH_neg, WI_pos, WI_neg]
            rw [if_pos p0]
            exact ⟨z5, rfl, hF5⟩
          · by_cases p1 : part = 1
            · simp (disch := first | assumption | omega) only [↓b_hid, bH_some, ↓hid_W, W_some, I3_a, I3_s, I3_m, I3_n, I3_l, I3_lt, I3_le, I3_e, I3_dv, I3_rm, I3_mx, I3_mn, I3_ab, cI, bI_0, bI_1, rZ_b, up_same, up_row, up_col, xr_some, LQ_r, LQ_l, Int.sub_self, Int.add_zero, Int.zero_add, Int.sub_zero, Int.neg_neg, not_true_eq_false, not_false_eq_true, Int.add_sub_cancel, ↓ite_iH, iH_t, iH_f, bH_iH, ↓bH_bind, xr_iH, ↓xr_bind, W_iH, WI_t, WI_f, f_X12_explain_100, iH_pos, iH_neg, WI_pos, WI_neg]
              rw [if_neg p0, if_pos p1]
              exact ⟨z5, rfl, hF5⟩
            · simp (disch := first | assumption | omega) only [↓b_hid, bH_some, ↓hid_W, W_some, I3_a, I3_s, I3_m, I3_n, I3_l, I3_lt, I3_le, I3_e, I3_dv, I3_rm, I3_mx, I3_mn, I3_ab, cI, bI_0, bI_1, rZ_b, up_same, up_row, up_col, xr_some, LQ_r, LQ_l, Int.sub_self, Int.add_zero, Int.zero_add, Int.sub_zero, Int.neg_neg, not_true_eq_false, not_false_eq_true, Int.add_sub_cancel, ↓ite_iH, iH_t, iH_f, bH_iH, ↓bH_bind, xr_iH, ↓xr_bind, W_iH, WI_t, WI_f, f_X12_explain_100, iH_pos, iH_neg, WI_pos, WI_neg]
              rw [if_neg p0, if_neg p1]
              exact ⟨z5, rfl, hF5⟩
        · have hl : ¬eP σ sn step i j k := hl
          rw [cif_f hl] at hE4
          simp (disch := first | assumption | omega) only [↓b_hid, bH_some, ↓hid_W, W_some, I3_a, I3_s, I3_m, I3_n, I3_l, I3_lt, I3_le, I3_e, I3_dv, I3_rm, I3_mx, I3_mn, I3_ab, cI, bI_0, bI_1, rZ_b, up_same, up_row, up_col, xr_some, LQ_r, LQ_l, Int.sub_self, Int.add_zero, Int.zero_add, Int.sub_zero, Int.neg_neg, not_true_eq_false, not_false_eq_true, Int.add_sub_cancel, ↓ite_iH, iH_t, iH_f, bH_iH, ↓bH_bind, xr_iH, ↓xr_bind, W_iH, WI_t, WI_f, iH_pos, iH_neg, WI_pos, WI_neg]
          refine ⟨_, ?_, k + 1, z5, by rw [Int.natCast_add]; rfl, by omega, rfl, ⟨hF5, a3.trans ht4⟩, ?_⟩
          · omega
          · rw [hmk2, Int.natCast_add]; exact hE4
      · have : k = 30 := by omega
        subst this
        rw [Nat.sub_self, exK_z] at hE4
        rw [hE4, if_pos rfl] at hE3
        simp (disch := first | assumption | omega) only [↓b_hid, bH_some, ↓hid_W, W_some, I3_a, I3_s, I3_m, I3_n, I3_l, I3_lt, I3_le, I3_e, I3_dv, I3_rm, I3_mx, I3_mn, I3_ab, cI, bI_0, bI_1, rZ_b, up_same, up_row, up_col, xr_some, LQ_r, LQ_l, Int.sub_self, Int.add_zero, Int.zero_add, Int.sub_zero, Int.neg_neg, not_true_eq_false, not_false_eq_true, Int.add_sub_cancel, ↓ite_iH, iH_t, iH_f, bH_iH, ↓bH_bind, xr_iH, ↓xr_bind, W_iH, WI_t, WI_f, f_X12_explain_130, iH_pos, iH_neg, WI_pos, WI_neg]
        refine ⟨_, ?_, j + 1, z4, by rw [Int.natCast_add]; rfl, by omega, rfl, ⟨hF4, ht4⟩, ?_⟩
        · omega
        · rw [hmj2, Int.natCast_add]; exact hE3
    · have : j = nB := by omega
      subst this
      rw [Nat.sub_self, exJ] at hE3
      rw [hE3, if_pos rfl] at hE
      simp (disch := first | assumption | omega) only [↓b_hid, bH_some, ↓hid_W, W_some, I3_a, I3_s, I3_m, I3_n, I3_l, I3_lt, I3_le, I3_e, I3_dv, I3_rm, I3_mx, I3_mn, I3_ab, cI, bI_0, bI_1, rZ_b, up_same, up_row, up_col, xr_some, LQ_r, LQ_l, Int.sub_self, Int.add_zero, Int.zero_add, Int.sub_zero, Int.neg_neg, not_true_eq_false, not_false_eq_true, Int.add_sub_cancel, ↓ite_iH, iH_t, iH_f, bH_iH, ↓bH_bind, xr_iH, ↓xr_bind, W_iH, WI_t, WI_f, gI_189, pI_189, iO_189, gR_189_0, aI_190, sI_190, gR_189_1, aI_191, sI_191, gR_189_3, aI_192, gR_189_10, aI_193, sI_193, gR_189_11, aI_194, sI_194, gR_189_13, aI_195, sI_195, gR_189_15, aI_196, sI_196, gR_189_17, aI_197, sI_197, gR_189_18, aI_198, sI_198, gR_189_19, aI_199, sI_199, gR_189_20, aI_200, sI_200, gR_189_23, aI_201, gR_189_24, aI_202, sI_202, gR_189_25, aI_203, sI_203, gR_189_29, aI_204, sI_204, gR_189_32, aI_205, sI_205, gR_189_35, aI_206, sI_206, pZ_189, gL_189, pL_189, hσ3, hnB', f_X12_explain_136, iH_pos, iH_neg, WI_pos, WI_neg]
      refine ⟨_, ?_, i + 1, z3, by rw [Int.natCast_add]; rfl, by omega, rfl, ⟨hF3, ht3⟩, ?_⟩
      · omega
      · rw [hmi2, Int.natCast_add]; exact hE
  · have : i = nB := by omega
    subst this
    rw [Nat.sub_self, exI] at hE
    rw [hE]
    simp (disch := first | assumption | omega) only [↓b_hid, bH_some, ↓hid_W, W_some, I3_a, I3_s, I3_m, I3_n, I3_l, I3_lt, I3_le, I3_e, I3_dv, I3_rm, I3_mx, I3_mn, I3_ab, cI, bI_0, bI_1, rZ_b, up_same, up_row, up_col, xr_some, LQ_r, LQ_l, Int.sub_self, Int.add_zero, Int.zero_add, Int.sub_zero, Int.neg_neg, not_true_eq_false, not_false_eq_true, Int.add_sub_cancel, ↓ite_iH, iH_t, iH_f, bH_iH, ↓bH_bind, xr_iH, ↓xr_bind, W_iH, WI_t, WI_f, gI_189, pI_189, iO_189, gR_189_0, aI_190, sI_190, gR_189_1, aI_191, sI_191, gR_189_3, aI_192, gR_189_10, aI_193, sI_193, gR_189_11, aI_194, sI_194, gR_189_13, aI_195, sI_195, gR_189_15, aI_196, sI_196, gR_189_17, aI_197, sI_197, gR_189_18, aI_198, sI_198, gR_189_19, aI_199, sI_199, gR_189_20, aI_200, sI_200, gR_189_23, aI_201, gR_189_24, aI_202, sI_202, gR_189_25, aI_203, sI_203, gR_189_29, aI_204, sI_204, gR_189_32, aI_205, sI_205, gR_189_35, aI_206, sI_206, pZ_189, gL_189, pL_189, hσ2, hnB', f_X12_explain_142, iH_pos, iH_neg, WI_pos, WI_neg]
    exact ⟨z2, rfl, hF⟩
end
