/-! Buttons: where they are, what they are, on both sides; the frames of the buttons. -/
def fBσ (σ : Int → Int) (x y : Int) : Int := fB (fun k => σ (59 + 2 * k)) (fun k => σ (60 + 2 * k)) x y (σ 58).toNat 0
theorem fBσ_r {σ : Int → Int} (hV : V σ) (x y : Int) : -9 ≤ fBσ σ x y ∧ fBσ σ x y < 12 := by
  have h := fB_r (fun k => σ (59 + 2 * k)) (fun k => σ (60 + 2 * k)) x y (σ 58).toNat 0 (by omega)
  have := hV.2.2.2.2.1
  unfold fBσ
  omega
theorem fBσ_nn {σ : Int → Int} (x y : Int) : fBσ σ x y = -9 ∨ 0 ≤ fBσ σ x y := by
  have h := fB_r (fun k => σ (59 + 2 * k)) (fun k => σ (60 + 2 * k)) x y (σ 58).toNat 0 (by omega)
  unfold fBσ
  omega
section
variable {p : Nat → Nat} {z l : Nat → Int → Int}
/-- the class: of the state at b -/
theorem c_tb {b : Nat} {σ : Int → Int} (hV : V σ) (hS : St z b σ) : (z (b + 1) 1 = σ 3 ∧ z (b + 1) 4 = σ 58) ∧ (0 ≤ σ 3 ∧ σ 3 ≤ 6) ∧ (0 ≤ σ 58 ∧ σ 58 ≤ 12) := ⟨⟨hS.2.1.1, hS.2.1.2.1⟩, hV.2.2.2.1, hV.2.2.2.2.1⟩
theorem c_bt {b : Nat} {σ : Int → Int} (hV : V σ) (hS : St z b σ) {i : Int} (h0 : 0 ≤ i) (h1 : i < σ 58) : (z (b + 1 + 2) i = σ (59 + 2 * i) ∧ z (b + 1 + 3) i = σ (60 + 2 * i)) ∧ (0 ≤ σ (59 + 2 * i) ∧ σ (59 + 2 * i) < σ 3 ∧ σ 3 ≤ 6) ∧ 0 ≤ σ (60 + 2 * i) ∧ σ (60 + 2 * i) < 65536 := by
  have h := hV.2.2.2.2.2.2.1 i h0 h1
  have := hV.2.2.2.1
  exact ⟨hS.2.1.2.2.2 i h0 h1, by omega, by omega⟩
theorem c_pr {b q : Nat} {σ : Int → Int} (hV : V σ) (hS : St z b σ) (hq : (q : Int) < σ 3) : (∀ f : Int, 0 ≤ f → f < 9 → z (b + 1 + 4 + q) f = Fσ σ q f) ∧ PV (Fσ σ q) ∧ PV (z (b + 1 + 4 + q)) := by
  have h : ∀ f : Int, 0 ≤ f → f < 9 → z (b + 1 + 4 + q) f = Fσ σ q f := fun f f0 f1 => hS.2.1.2.2.1 q hq f f0 f1
  have h2 : PV (Fσ σ q) := hV.2.2.2.2.2.1 q hq
  exact ⟨h, h2, PV_c (fun j j0 j1 => (h j j0 j1).symm) h2⟩
theorem c_findB {b : Nat} {x y : Int} {σ : Int → Int} (hb : isB b) (hV : V σ) (hS : St z b σ) (hx : -2147483648 ≤ x) (hx' : x < 2147483648) (hy : -2147483648 ≤ y) (hy' : y < 2147483648) : f_X8_findButton (b + 1) (I3 x) (I3 y) (M p z l) = some (I3 (fBσ σ x y), M p z l) := by
  obtain ⟨⟨e1, e2⟩, h3, h58⟩ := c_tb hV hS
  have hd : ∀ i, 0 ≤ i → i < z (b + 1) 4 → 0 ≤ z (b + 1 + 2) i ∧ z (b + 1 + 2) i < 6 ∧ 0 ≤ z (b + 1 + 3) i ∧ z (b + 1 + 3) i < 65536 := by
    intro i i0 i1
    have := c_bt hV hS i0 (by omega)
    omega
  rw [g_findB (isTb_B hb) (by omega) (by omega) hx hx' hy hy' hd, e2]
  have : fB (z (b + 1 + 2)) (z (b + 1 + 3)) x y (σ 58).toNat 0 = fBσ σ x y := by
    unfold fBσ
    refine fB_congr _ _ (fun k k0 k1 => ?_)
    exact (c_bt hV hS k0 (by omega)).1
  rw [this]
theorem c_idn {b : Nat} {x c : Int} {σ : Int → Int} (hb : isB b) (hV : V σ) (hS : St z b σ) (hx : 0 ≤ x) (hx' : x < σ 3) (hc : 0 ≤ c) : f_X6_identityOf (b + 1 + 4 + x.toNat) (I3 c) (M p z l) = some (I3 (idn (Fσ σ x.toNat) c), M p z l) := by
  obtain ⟨⟨e1, e2⟩, h3, h58⟩ := c_tb hV hS
  obtain ⟨h, h2, h4⟩ := c_pr (q := x.toNat) hV hS (by omega)
  rw [g_idn (isP_T (isTb_B hb) (by omega)) hc h4.2.2.2.2.2.1 h4.2.2.2.2.2.2.1 h4.2.2.2.2.2.2.2, idn_congr h]
theorem c_findBO {b : Nat} {x c : Int} {σ : Int → Int} (hb : isB b) (hV : V σ) (hS : St z b σ) (hx : 0 ≤ x) (hx' : x < σ 3) (hc : 0 ≤ c) (hc' : c < 2147483648) : f_X8_findButtonOf (b + 1) (I3 x) (I3 c) (M p z l) = some (I3 (fBσ σ x (idn (Fσ σ x.toNat) c)), M p z l) := by
  obtain ⟨⟨e1, e2⟩, h3, h58⟩ := c_tb hV hS
  have hr := idn_r (f := Fσ σ x.toNat) hc
  have hP := isP_T (isTb_B hb) (i := x.toNat) (by omega)
  have hTb := isTb_B hb
  have i1 := c_idn (p := p) (l := l) hb hV hS hx hx' hc
  have i2 := c_findB (p := p) (l := l) (x := x) (y := idn (Fσ σ x.toNat) c) hb hV hS (by omega) (by omega) (by omega) (by omega)
  apply W_eq; unfold f_X8_findButtonOf
  simp (disch := first | assumption | omega) only [↓b_hid, bH_some, ↓hid_W, ↓W_ite, WI_t, WI_f, W_some, I3_a, I3_s, I3_m, I3_n, I3_l, I3_lt, I3_le, I3_e, I3_dv, I3_rm, I3_mx, I3_mn, I3_ab, cI, bI_0, bI_1, rZ_b, up_same, up_row, up_col, xr_some, LQ_r, LQ_l, Int.sub_self, Int.add_zero, Int.zero_add, Int.sub_zero, Int.neg_neg, not_true_eq_false, not_false_eq_true, Int.add_sub_cancel, gI_Tb, pI_Tb, iO_Tb, gR_Tb0, gR_Tb2, gR_Tb3, aR_Tb, aI_Tb2, aI_Tb3, sI_Tb2, sI_Tb3, cpI_Tb2, cpI_Tb3, g_pAt, iO_P, i1, i2]
/-- the model -/
theorem m_identity {x c : Int} {σ : Int → Int} (hσ : z 190 = σ) (hV : V σ) (hx : 0 ≤ x) (hx' : x < σ 3) (hc : 0 ≤ c) : f_X12_identity 189 (I3 x) (I3 c) (M p z l) = some (I3 (idn (Fσ σ x.toNat) c), M p z l) := by
  have h3 := hV.2.2.2.1
  have hP : PV (Fσ σ x.toNat) := hV.2.2.2.2.2.1 x.toNat (by omega)
  have hx2 : ((x.toNat : Nat) : Int) = x := by omega
  have e6 : σ (4 + 9 * x + 6) = Fσ σ x.toNat 6 := by unfold Fσ; rw [hx2]
  have e7 : σ (4 + 9 * x + 7) = Fσ σ x.toNat 7 := by unfold Fσ; rw [hx2]
  have e8 : σ (4 + 9 * x + 8) = Fσ σ x.toNat 8 := by unfold Fσ; rw [hx2]
  generalize Fσ σ x.toNat = f at *
  obtain ⟨p0, p1, p2, p3, p4, p6, p7, p8⟩ := hP
  apply W_eq; unfold f_X12_identity
  have key : ∀ s : Int, 0 ≤ s → s ≤ 15 → s = plc f 0 → WP (f_X12_identity_33 189 (I3 x) (I3 c) (I3 s) (M p z l)) (fun r => r = (I3 (idn f c), M p z l)) := by
    intro s s0 s1 hs
    have hpl := plc_r (f := f) (k := 0) (by omega) (by omega)
    unfold f_X12_identity_33 idn
    by_cases h8 : f 8 = 2
    · rw [if_pos h8]
      simp (disch := first | assumption | omega) only [↓b_hid, bH_some, ↓hid_W, W_some, I3_a, I3_s, I3_m, I3_n, I3_l, I3_lt, I3_le, I3_e, I3_dv, I3_rm, I3_mx, I3_mn, I3_ab, cI, bI_0, bI_1, rZ_b, up_same, up_row, up_col, xr_some, LQ_r, LQ_l, Int.sub_self, Int.add_zero, Int.zero_add, Int.sub_zero, Int.neg_neg, not_true_eq_false, not_false_eq_true, Int.add_sub_cancel, ↓ite_iH, iH_t, iH_f, bH_iH, ↓bH_bind, xr_iH, ↓xr_bind, W_iH, WI_t, WI_f, gI_189, pI_189, iO_189, gR_189_0, aI_190, sI_190, gR_189_1, aI_191, sI_191, gR_189_3, aI_192, gR_189_10, aI_193, sI_193, gR_189_11, aI_194, sI_194, gR_189_13, aI_195, sI_195, gR_189_15, aI_196, sI_196, gR_189_17, aI_197, sI_197, gR_189_18, aI_198, sI_198, gR_189_19, aI_199, sI_199, gR_189_20, aI_200, sI_200, gR_189_23, aI_201, gR_189_24, aI_202, sI_202, gR_189_25, aI_203, sI_203, gR_189_29, aI_204, sI_204, gR_189_32, aI_205, sI_205, gR_189_35, aI_206, sI_206, pZ_189, gL_189, pL_189, m_at, hσ, e8, shl1, and_not_pw, I3_n, iH_pos, iH_neg, WI_pos, WI_neg]
      rw [hs]
    · rw [if_neg h8]
      simp (disch := first | assumption | omega) only [↓b_hid, bH_some, ↓hid_W, W_some, I3_a, I3_s, I3_m, I3_n, I3_l, I3_lt, I3_le, I3_e, I3_dv, I3_rm, I3_mx, I3_mn, I3_ab, cI, bI_0, bI_1, rZ_b, up_same, up_row, up_col, xr_some, LQ_r, LQ_l, Int.sub_self, Int.add_zero, Int.zero_add, Int.sub_zero, Int.neg_neg, not_true_eq_false, not_false_eq_true, Int.add_sub_cancel, ↓ite_iH, iH_t, iH_f, bH_iH, ↓bH_bind, xr_iH, ↓xr_bind, W_iH, WI_t, WI_f, gI_189, pI_189, iO_189, gR_189_0, aI_190, sI_190, gR_189_1, aI_191, sI_191, gR_189_3, aI_192, gR_189_10, aI_193, sI_193, gR_189_11, aI_194, sI_194, gR_189_13, aI_195, sI_195, gR_189_15, aI_196, sI_196, gR_189_17, aI_197, sI_197, gR_189_18, aI_198, sI_198, gR_189_19, aI_199, sI_199, gR_189_20, aI_200, sI_200, gR_189_23, aI_201, gR_189_24, aI_202, sI_202, gR_189_25, aI_203, sI_203, gR_189_29, aI_204, sI_204, gR_189_32, aI_205, sI_205, gR_189_35, aI_206, sI_206, pZ_189, gL_189, pL_189, m_at, hσ, e8, iH_pos, iH_neg, WI_pos, WI_neg]
  by_cases h7 : f 7 = 0
  · have := key (f 6 - 1) (by omega) (by omega) (by unfold plc; rw [if_neg (by omega)]; omega)
    simp (disch := first | assumption | omega) only [↓b_hid, bH_some, ↓hid_W, W_some, I3_a, I3_s, I3_m, I3_n, I3_l, I3_lt, I3_le, I3_e, I3_dv, I3_rm, I3_mx, I3_mn, I3_ab, cI, bI_0, bI_1, rZ_b, up_same, up_row, up_col, xr_some, LQ_r, LQ_l, Int.sub_self, Int.add_zero, Int.zero_add, Int.sub_zero, Int.neg_neg, not_true_eq_false, not_false_eq_true, Int.add_sub_cancel, ↓ite_iH, iH_t, iH_f, bH_iH, ↓bH_bind, xr_iH, ↓xr_bind, W_iH, WI_t, WI_f, gI_189, pI_189, iO_189, gR_189_0, aI_190, sI_190, gR_189_1, aI_191, sI_191, gR_189_3, aI_192, gR_189_10, aI_193, sI_193, gR_189_11, aI_194, sI_194, gR_189_13, aI_195, sI_195, gR_189_15, aI_196, sI_196, gR_189_17, aI_197, sI_197, gR_189_18, aI_198, sI_198, gR_189_19, aI_199, sI_199, gR_189_20, aI_200, sI_200, gR_189_23, aI_201, gR_189_24, aI_202, sI_202, gR_189_25, aI_203, sI_203, gR_189_29, aI_204, sI_204, gR_189_32, aI_205, sI_205, gR_189_35, aI_206, sI_206, pZ_189, gL_189, pL_189, m_at, hσ, e7, e6, iH_pos, iH_neg, WI_pos, WI_neg]
    exact this
  · have := key 0 (by omega) (by omega) (by unfold plc; rw [if_pos (by omega)])
    simp (disch := first | assumption | omega) only [↓b_hid, bH_some, ↓hid_W, W_some, I3_a, I3_s, I3_m, I3_n, I3_l, I3_lt, I3_le, I3_e, I3_dv, I3_rm, I3_mx, I3_mn, I3_ab, cI, bI_0, bI_1, rZ_b, up_same, up_row, up_col, xr_some, LQ_r, LQ_l, Int.sub_self, Int.add_zero, Int.zero_add, Int.sub_zero, Int.neg_neg, not_true_eq_false, not_false_eq_true, Int.add_sub_cancel, ↓ite_iH, iH_t, iH_f, bH_iH, ↓bH_bind, xr_iH, ↓xr_bind, W_iH, WI_t, WI_f, gI_189, pI_189, iO_189, gR_189_0, aI_190, sI_190, gR_189_1, aI_191, sI_191, gR_189_3, aI_192, gR_189_10, aI_193, sI_193, gR_189_11, aI_194, sI_194, gR_189_13, aI_195, sI_195, gR_189_15, aI_196, sI_196, gR_189_17, aI_197, sI_197, gR_189_18, aI_198, sI_198, gR_189_19, aI_199, sI_199, gR_189_20, aI_200, sI_200, gR_189_23, aI_201, gR_189_24, aI_202, sI_202, gR_189_25, aI_203, sI_203, gR_189_29, aI_204, sI_204, gR_189_32, aI_205, sI_205, gR_189_35, aI_206, sI_206, pZ_189, gL_189, pL_189, m_at, hσ, e7, iH_pos, iH_neg, WI_pos, WI_neg]
    exact this
theorem m_buttonOf {x y : Int} {σ : Int → Int} (hσ : z 190 = σ) (hV : V σ) (hx : -2147483648 ≤ x) (hx' : x < 2147483648) (hy : -2147483648 ≤ y) (hy' : y < 2147483648) : f_X12_buttonOf 189 (I3 x) (I3 y) (M p z l) = some (I3 (fBσ σ x y), M p z l) := by
  have h58 := hV.2.2.2.2.1
  have h3 := hV.2.2.2.1
  apply W_eq
  unfold f_X12_buttonOf f_X12_buttonOf_2
  refine lp_W (fun n s => ∃ i : Int, s = (189, I3 x, I3 y, I3 i, M p z l) ∧ 0 ≤ i ∧ i ≤ σ 58 ∧ n = (σ 58 - i).toNat ∧ fBσ σ x y = fB (fun k => σ (59 + 2 * k)) (fun k => σ (60 + 2 * k)) x y n i) (fun n s hs => ?_) ⟨0, rfl, by omega, h58.1, rfl, by rw [Int.sub_zero]; rfl⟩
  obtain ⟨i, rfl, hi0, hi1, hn, hf⟩ := hs
  unfold f_X12_buttonOf_2_b
  by_cases hi : i < σ 58
  · obtain ⟨a1, a2, a3, a4⟩ := hV.2.2.2.2.2.2.1 i hi0 hi
    have e60 : σ (59 + 2 * i + 1) = σ (60 + 2 * i) := by rw [show 59 + 2 * i + 1 = 60 + 2 * i by omega]
    obtain ⟨m, rfl⟩ : ∃ m, n = m + 1 := ⟨n - 1, by omega⟩
    simp (disch := first | assumption | omega) only [↓b_hid, bH_some, ↓hid_W, W_some, I3_a, I3_s, I3_m, I3_n, I3_l, I3_lt, I3_le, I3_e, I3_dv, I3_rm, I3_mx, I3_mn, I3_ab, cI, bI_0, bI_1, rZ_b, up_same, up_row, up_col, xr_some, LQ_r, LQ_l, Int.sub_self, Int.add_zero, Int.zero_add, Int.sub_zero, Int.neg_neg, not_true_eq_false, not_false_eq_true, Int.add_sub_cancel, ↓ite_iH, iH_t, iH_f, bH_iH, ↓bH_bind, xr_iH, ↓xr_bind, W_iH, WI_t, WI_f, gI_189, pI_189, iO_189, gR_189_0, aI_190, sI_190, gR_189_1, aI_191, sI_191, gR_189_3, aI_192, gR_189_10, aI_193, sI_193, gR_189_11, aI_194, sI_194, gR_189_13, aI_195, sI_195, gR_189_15, aI_196, sI_196, gR_189_17, aI_197, sI_197, gR_189_18, aI_198, sI_198, gR_189_19, aI_199, sI_199, gR_189_20, aI_200, sI_200, gR_189_23, aI_201, gR_189_24, aI_202, sI_202, gR_189_25, aI_203, sI_203, gR_189_29, aI_204, sI_204, gR_189_32, aI_205, sI_205, gR_189_35, aI_206, sI_206, pZ_189, gL_189, pL_189, hσ, iH_pos, iH_neg, WI_pos, WI_neg]
    refine WI_i (fun h => ?_) (fun h => ?_)
    · simp (disch := first | assumption | omega) only [↓b_hid, bH_some, ↓hid_W, W_some, I3_a, I3_s, I3_m, I3_n, I3_l, I3_lt, I3_le, I3_e, I3_dv, I3_rm, I3_mx, I3_mn, I3_ab, cI, bI_0, bI_1, rZ_b, up_same, up_row, up_col, xr_some, LQ_r, LQ_l, Int.sub_self, Int.add_zero, Int.zero_add, Int.sub_zero, Int.neg_neg, not_true_eq_false, not_false_eq_true, Int.add_sub_cancel, ↓ite_iH, iH_t, iH_f, bH_iH, ↓bH_bind, xr_iH, ↓xr_bind, W_iH, WI_t, WI_f, gI_189, pI_189, iO_189, gR_189_0, aI_190, sI_190, gR_189_1, aI_191, sI_191, gR_189_3, aI_192, gR_189_10, aI_193, sI_193, gR_189_11, aI_194, sI_194, gR_189_13, aI_195, sI_195, gR_189_15, aI_196, sI_196, gR_189_17, aI_197, sI_197, gR_189_18, aI_198, sI_198, gR_189_19, aI_199, sI_199, gR_189_20, aI_200, sI_200, gR_189_23, aI_201, gR_189_24, aI_202, sI_202, gR_189_25, aI_203, sI_203, gR_189_29, aI_204, sI_204, gR_189_32, aI_205, sI_205, gR_189_35, aI_206, sI_206, pZ_189, gL_189, pL_189, hσ, e60]
      refine WI_i (fun h' => ?_) (fun h' => ?_)
      · simp (disch := first | assumption | omega) only [↓b_hid, bH_some, ↓hid_W, W_some, I3_a, I3_s, I3_m, I3_n, I3_l, I3_lt, I3_le, I3_e, I3_dv, I3_rm, I3_mx, I3_mn, I3_ab, cI, bI_0, bI_1, rZ_b, up_same, up_row, up_col, xr_some, LQ_r, LQ_l, Int.sub_self, Int.add_zero, Int.zero_add, Int.sub_zero, Int.neg_neg, not_true_eq_false, not_false_eq_true, Int.add_sub_cancel, ↓ite_iH, iH_t, iH_f, bH_iH, ↓bH_bind, xr_iH, ↓xr_bind, W_iH, WI_t, WI_f, f_X12_buttonOf_45]
        rw [hf, fB, if_pos ⟨h, h'⟩]
      · simp (disch := first | assumption | omega) only [↓b_hid, bH_some, ↓hid_W, W_some, I3_a, I3_s, I3_m, I3_n, I3_l, I3_lt, I3_le, I3_e, I3_dv, I3_rm, I3_mx, I3_mn, I3_ab, cI, bI_0, bI_1, rZ_b, up_same, up_row, up_col, xr_some, LQ_r, LQ_l, Int.sub_self, Int.add_zero, Int.zero_add, Int.sub_zero, Int.neg_neg, not_true_eq_false, not_false_eq_true, Int.add_sub_cancel, ↓ite_iH, iH_t, iH_f, bH_iH, ↓bH_bind, xr_iH, ↓xr_bind, W_iH, WI_t, WI_f, f_X12_buttonOf_47]
        refine ⟨m, by omega, i + 1, rfl, by omega, by omega, by omega, ?_⟩
        rw [hf, fB, if_neg (fun hh => h' hh.2)]
    · simp (disch := first | assumption | omega) only [↓b_hid, bH_some, ↓hid_W, W_some, I3_a, I3_s, I3_m, I3_n, I3_l, I3_lt, I3_le, I3_e, I3_dv, I3_rm, I3_mx, I3_mn, I3_ab, cI, bI_0, bI_1, rZ_b, up_same, up_row, up_col, xr_some, LQ_r, LQ_l, Int.sub_self, Int.add_zero, Int.zero_add, Int.sub_zero, Int.neg_neg, not_true_eq_false, not_false_eq_true, Int.add_sub_cancel, ↓ite_iH, iH_t, iH_f, bH_iH, ↓bH_bind, xr_iH, ↓xr_bind, W_iH, WI_t, WI_f, f_X12_buttonOf_47]
      refine ⟨m, by omega, i + 1, rfl, by omega, by omega, by omega, ?_⟩
      rw [hf, fB, if_neg (fun hh => h hh.1)]
  · have : n = 0 := by omega
    subst this
    simp (disch := first | assumption | omega) only [↓b_hid, bH_some, ↓hid_W, W_some, I3_a, I3_s, I3_m, I3_n, I3_l, I3_lt, I3_le, I3_e, I3_dv, I3_rm, I3_mx, I3_mn, I3_ab, cI, bI_0, bI_1, rZ_b, up_same, up_row, up_col, xr_some, LQ_r, LQ_l, Int.sub_self, Int.add_zero, Int.zero_add, Int.sub_zero, Int.neg_neg, not_true_eq_false, not_false_eq_true, Int.add_sub_cancel, ↓ite_iH, iH_t, iH_f, bH_iH, ↓bH_bind, xr_iH, ↓xr_bind, W_iH, WI_t, WI_f, gI_189, pI_189, iO_189, gR_189_0, aI_190, sI_190, gR_189_1, aI_191, sI_191, gR_189_3, aI_192, gR_189_10, aI_193, sI_193, gR_189_11, aI_194, sI_194, gR_189_13, aI_195, sI_195, gR_189_15, aI_196, sI_196, gR_189_17, aI_197, sI_197, gR_189_18, aI_198, sI_198, gR_189_19, aI_199, sI_199, gR_189_20, aI_200, sI_200, gR_189_23, aI_201, gR_189_24, aI_202, sI_202, gR_189_25, aI_203, sI_203, gR_189_29, aI_204, sI_204, gR_189_32, aI_205, sI_205, gR_189_35, aI_206, sI_206, pZ_189, gL_189, pL_189, hσ, f_X12_buttonOf_53, iH_pos, iH_neg, WI_pos, WI_neg]
    rw [hf]; rfl
/-- the frame of button i -/
def bσ (σ : Int → Int) (i : Int) : Dn := frm (Fσ σ (σ (59 + 2 * i)).toNat) (σ (60 + 2 * i))
theorem bσ_r {σ : Int → Int} (hV : V σ) {i : Int} (h0 : 0 ≤ i) (h1 : i < σ 58) : Dg (bσ σ i) ∧ 3 ≤ (bσ σ i).1 ∧ (bσ σ i).1 ≤ 35 ∧ (bσ σ i).1 % 2 = 1 := by
  have h := hV.2.2.2.2.2.2.1 i h0 h1
  exact frm_r _ (hV.2.2.2.2.2.1 _ (by omega))
theorem bσ_g {σ : Int → Int} (hV : V σ) {i : Int} (h0 : 0 ≤ i) (h1 : i < σ 58) : Gd (bσ σ i) := by
  obtain ⟨a, b, c, d⟩ := bσ_r hV h0 h1
  refine ⟨by omega, fun k k0 k1 => ?_⟩
  have := a k k0 k1; omega
theorem g_bfAt {i : Int} (h0 : 0 ≤ i) (h1 : i < 12) : f_X11_buttonFrameAt 0 (I3 i) (M p z l) = some (165 + 2 * i.toNat, M p z l) := by
  apply W_eq; unfold f_X11_buttonFrameAt; simp (disch := first | assumption | omega) only [↓b_hid, bH_some, ↓hid_W, W_some, I3_a, I3_s, I3_m, I3_n, I3_l, I3_lt, I3_le, I3_e, I3_dv, I3_rm, I3_mx, I3_mn, I3_ab, cI, bI_0, bI_1, rZ_b, up_same, up_row, up_col, xr_some, LQ_r, LQ_l, Int.sub_self, Int.add_zero, Int.zero_add, Int.sub_zero, Int.neg_neg, not_true_eq_false, not_false_eq_true, Int.add_sub_cancel, ↓ite_iH, iH_t, iH_f, bH_iH, ↓bH_bind, xr_iH, ↓xr_bind, W_iH, WI_t, WI_f, aR_34, aR_19, sR_19, gR_0_0, pR_0, gI_0, pI_0, iO_0, gR_0_1, gR_0_3, gR_0_4, gR_0_5, gR_0_6, gR_0_7, gR_0_8, gR_0_9, gR_0_10, gR_0_11, gR_0_6, iH_pos, iH_neg, WI_pos, WI_neg]
theorem w_wbf {σ : Int → Int} (hb : isB (p 0)) (hV : V σ) (hS : St z (p 0) σ) : WP (f_X11_writeButtonFrames 0 (M p z l)) (fun μ => ∃ z', μ = M p z' l ∧ (∀ i : Nat, (i : Int) < σ 58 → Trx z' (165 + 2 * i) (bσ σ i)) ∧ ∀ k, k < 165 ∨ 189 ≤ k → z' k = z k) := by
  have hr := isB_r hb
  have hTb := isTb_B hb
  unfold f_X11_writeButtonFrames
  simp (disch := first | assumption | omega) only [↓b_hid, bH_some, ↓hid_W, W_some, I3_a, I3_s, I3_m, I3_n, I3_l, I3_lt, I3_le, I3_e, I3_dv, I3_rm, I3_mx, I3_mn, I3_ab, cI, bI_0, bI_1, rZ_b, up_same, up_row, up_col, xr_some, LQ_r, LQ_l, Int.sub_self, Int.add_zero, Int.zero_add, Int.sub_zero, Int.neg_neg, not_true_eq_false, not_false_eq_true, Int.add_sub_cancel, ↓ite_iH, iH_t, iH_f, bH_iH, ↓bH_bind, xr_iH, ↓xr_bind, W_iH, WI_t, WI_f, aR_34, aR_19, sR_19, gR_0_0, pR_0, gI_0, pI_0, iO_0, gR_0_1, gR_0_3, gR_0_4, gR_0_5, gR_0_6, gR_0_7, gR_0_8, gR_0_9, gR_0_10, gR_0_11, gI_B, pI_B, iO_B, gR_B0, gR_B1, aR_B]
  unfold f_X11_writeButtonFrames_10
  refine lp_W (fun n s => ∃ (i : Nat) (z' : Nat → Int → Int), s = (0, p 0 + 1, I3 i, M p z' l) ∧ (i : Int) ≤ σ 58 ∧ n = (σ 58).toNat - i ∧ (∀ j : Nat, j < i → Trx z' (165 + 2 * j) (bσ σ j)) ∧ ∀ k, k < 165 ∨ 189 ≤ k → z' k = z k) (fun n s hs => ?_) ⟨0, z, rfl, by have := hV.2.2.2.2.1; omega, rfl, fun j hj => by omega, fun _ _ => rfl⟩
  obtain ⟨i, z', rfl, hi, rfl, hT, hF⟩ := hs
  have hS' : St z' (p 0) σ := St_congr hV (fun k k0 k1 => hF k (by omega)) hS
  obtain ⟨⟨e1, e2⟩, h3, h58⟩ := c_tb hV hS'
  unfold f_X11_writeButtonFrames_10_b
  by_cases hi2 : (i : Int) < σ 58
  · obtain ⟨⟨g1, g2⟩, g3, g4⟩ := c_bt hV hS' (i := i) (by omega) hi2
    obtain ⟨q1, q2, q3⟩ := c_pr (q := (σ (59 + 2 * i)).toNat) hV hS' (by omega)
    have hP := isP_T hTb (i := (σ (59 + 2 * i)).toNat) (by omega)
    have hti := isT_bf (i := i) (by omega)
    have e4 : ((i : Nat) : Int).toNat = i := Int.toNat_natCast i
    simp (disch := first | assumption | omega) only [↓b_hid, bH_some, ↓hid_W, W_some, I3_a, I3_s, I3_m, I3_n, I3_l, I3_lt, I3_le, I3_e, I3_dv, I3_rm, I3_mx, I3_mn, I3_ab, cI, bI_0, bI_1, rZ_b, up_same, up_row, up_col, xr_some, LQ_r, LQ_l, Int.sub_self, Int.add_zero, Int.zero_add, Int.sub_zero, Int.neg_neg, not_true_eq_false, not_false_eq_true, Int.add_sub_cancel, ↓ite_iH, iH_t, iH_f, bH_iH, ↓bH_bind, xr_iH, ↓xr_bind, W_iH, WI_t, WI_f, gI_Tb, pI_Tb, iO_Tb, gR_Tb0, gR_Tb2, gR_Tb3, aR_Tb, aI_Tb2, aI_Tb3, sI_Tb2, sI_Tb3, cpI_Tb2, cpI_Tb3, aR_34, aR_19, sR_19, gR_0_0, pR_0, gI_0, pI_0, iO_0, gR_0_1, gR_0_3, gR_0_4, gR_0_5, gR_0_6, gR_0_7, gR_0_8, gR_0_9, gR_0_10, gR_0_11, e2, g_pOfB, g1, g_pAt, g_iOfB, g2, iO_0, g_bfAt, iO_P, e4, iH_pos, iH_neg, WI_pos, WI_neg]
    refine W_bH (W_imp (w_writeFrame hti hP (by omega) (by omega) rfl g4.1 q3) ?_)
    rintro _ ⟨z2, rfl, b1, b2⟩
    have b1 : Trx z2 (165 + 2 * i) (bσ σ i) := by rw [frm_c q1] at b1; exact b1
    simp (disch := first | assumption | omega) only [↓b_hid, bH_some, ↓hid_W, W_some, I3_a, I3_s, I3_m, I3_n, I3_l, I3_lt, I3_le, I3_e, I3_dv, I3_rm, I3_mx, I3_mn, I3_ab, cI, bI_0, bI_1, rZ_b, up_same, up_row, up_col, xr_some, LQ_r, LQ_l, Int.sub_self, Int.add_zero, Int.zero_add, Int.sub_zero, Int.neg_neg, not_true_eq_false, not_false_eq_true, Int.add_sub_cancel, ↓ite_iH, iH_t, iH_f, bH_iH, ↓bH_bind, xr_iH, ↓xr_bind, W_iH, WI_t, WI_f]
    refine ⟨_, ?_, i + 1, z2, by rw [Int.natCast_add]; rfl, by omega, rfl, fun j hj => ?_, fun k hk => ?_⟩
    · omega
    · by_cases hji : j = i
      · subst hji; exact b1
      · exact Tr_congr (b2 _ (by omega) (by omega)) (b2 _ (by omega) (by omega)) (hT j (by omega))
    · rw [b2 k (by omega) (by omega)]; exact hF k hk
  · simp (disch := first | assumption | omega) only [↓b_hid, bH_some, ↓hid_W, W_some, I3_a, I3_s, I3_m, I3_n, I3_l, I3_lt, I3_le, I3_e, I3_dv, I3_rm, I3_mx, I3_mn, I3_ab, cI, bI_0, bI_1, rZ_b, up_same, up_row, up_col, xr_some, LQ_r, LQ_l, Int.sub_self, Int.add_zero, Int.zero_add, Int.sub_zero, Int.neg_neg, not_true_eq_false, not_false_eq_true, Int.add_sub_cancel, ↓ite_iH, iH_t, iH_f, bH_iH, ↓bH_bind, xr_iH, ↓xr_bind, W_iH, WI_t, WI_f, gI_Tb, pI_Tb, iO_Tb, gR_Tb0, gR_Tb2, gR_Tb3, aR_Tb, aI_Tb2, aI_Tb3, sI_Tb2, sI_Tb3, cpI_Tb2, cpI_Tb3, e2, f_X11_writeButtonFrames_48, iH_pos, iH_neg, WI_pos, WI_neg]
    exact ⟨z', rfl, fun j hj => hT j (by omega), hF⟩
end
