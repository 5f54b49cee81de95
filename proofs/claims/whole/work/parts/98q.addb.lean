/-! addButton(): both sides. -/
theorem addB_hi {σ : Int → Int} {x y : Int} (h : 0 ≤ σ 58 ∧ σ 58 < 12) : ∀ j : Int, j < 3 ∨ 83 ≤ j → addB σ x y j = σ j := fun j hj => addB_o (by omega) (by omega) (by omega)
def A_addB (σ : Int → Int) (q c : Int) : Int := if 0 ≤ q ∧ q < σ 3 then (if 0 ≤ c ∧ c < pw (Fσ σ q.toNat 6) then (if fBσ σ q (idn (Fσ σ q.toNat) c) = -9 then (if σ 58 < 12 then σ 58 else -3) else -2) else -1) else -1
def G_addB (σ : Int → Int) (q c : Int) : Prop := (0 ≤ q ∧ q < σ 3) ∧ (0 ≤ c ∧ c < pw (Fσ σ q.toNat 6)) ∧ fBσ σ q (idn (Fσ σ q.toNat) c) = -9 ∧ σ 58 < 12
set_option maxHeartbeats 4000000 in
theorem j_addButton (a b : Int32) : JT (f_X11_addButton 0 a b) (f_X12_addButton 189 a b) := by
  obtain ⟨q, hq, rfl⟩ := i3x a
  obtain ⟨c, hc, rfl⟩ := i3x b
  refine JT_c (fun σ => A_addB σ q c) (fun σ => G_addB σ q c) (fun σ => addB σ q (idn (Fσ σ q.toNat) c)) (fun p z l σ n h hp hV hS h0 h6 hH => ?_) (fun p z l σ n hσ hV h2 h0 h6 => ?_)
  · have hb := hp.1 0 (by omega)
    have hTb := isTb_B hb
    obtain ⟨⟨e1, e4⟩, v3, v58⟩ := c_tb hV hS
    unfold f_X11_addButton A_addB G_addB
    have gh := g_hasP (p := p) (z := z) (l := l) (i := q) hTb (by omega) (by omega) hq.1 hq.2
    rw [e1] at gh
    by_cases h1 : 0 ≤ q ∧ q < σ 3
    case neg =>
      rw [bI_f h1] at gh
      simp only [if_neg h1]
      simp (disch := first | assumption | omega) only [↓b_hid, bH_some, ↓hid_W, W_some, I3_a, I3_s, I3_m, I3_n, I3_l, I3_lt, I3_le, I3_e, I3_dv, I3_rm, I3_mx, I3_mn, I3_ab, cI, bI_0, bI_1, rZ_b, up_same, up_row, up_col, xr_some, LQ_r, LQ_l, Int.sub_self, Int.add_zero, Int.zero_add, Int.sub_zero, Int.neg_neg, not_true_eq_false, not_false_eq_true, Int.add_sub_cancel, ↓ite_iH, iH_t, iH_f, bH_iH, ↓bH_bind, xr_iH, ↓xr_bind, W_iH, WI_t, WI_f, aR_34, aR_19, sR_19, gR_0_0, pR_0, gI_0, pI_0, iO_0, gR_0_1, gR_0_3, gR_0_4, gR_0_5, gR_0_6, gR_0_7, gR_0_8, gR_0_9, gR_0_10, gR_0_11, gI_B, pI_B, iO_B, gR_B0, gR_B1, aR_B, iO_Tb, gh, iH_pos, iH_neg, WI_pos, WI_neg]
      exact ⟨p, z, l, rfl, Or.inr ⟨fun hg => h1 hg.1, rfl, FrX_r z⟩⟩
    rw [bI_t h1] at gh
    obtain ⟨c1, c2, c3⟩ := c_pr (q := q.toNat) hV hS (by omega)
    have hP := isP_T hTb (i := q.toNat) (by omega)
    have gA := g_pAt (p := p) (z := z) (l := l) (i := q) hTb (by omega) (by omega)
    have p6 := c2.2.2.2.2.2.1
    have e6 : z (p 0 + 1 + 4 + q.toNat) 6 = Fσ σ q.toNat 6 := c1 6 (by decide) (by decide)
    have gC := g_hasC (p := p) (z := z) (l := l) (c := c) hP (by omega) (by omega) hc.1 hc.2
    rw [e6] at gC
    by_cases h3 : 0 ≤ c ∧ c < pw (Fσ σ q.toNat 6)
    case neg =>
      rw [bI_f h3] at gC
      simp only [if_pos h1, if_neg h3]
      generalize p 0 + 1 + 4 + q.toNat = Q0 at *
      simp (disch := first | assumption | omega) only [↓b_hid, bH_some, ↓hid_W, W_some, I3_a, I3_s, I3_m, I3_n, I3_l, I3_lt, I3_le, I3_e, I3_dv, I3_rm, I3_mx, I3_mn, I3_ab, cI, bI_0, bI_1, rZ_b, up_same, up_row, up_col, xr_some, LQ_r, LQ_l, Int.sub_self, Int.add_zero, Int.zero_add, Int.sub_zero, Int.neg_neg, not_true_eq_false, not_false_eq_true, Int.add_sub_cancel, ↓ite_iH, iH_t, iH_f, bH_iH, ↓bH_bind, xr_iH, ↓xr_bind, W_iH, WI_t, WI_f, aR_34, aR_19, sR_19, gR_0_0, pR_0, gI_0, pI_0, iO_0, gR_0_1, gR_0_3, gR_0_4, gR_0_5, gR_0_6, gR_0_7, gR_0_8, gR_0_9, gR_0_10, gR_0_11, gI_B, pI_B, iO_B, gR_B0, gR_B1, aR_B, iO_Tb, gh, gA, iO_P, gC, iH_pos, iH_neg, WI_pos, WI_neg]
      exact ⟨p, z, l, rfl, Or.inr ⟨fun hg => h3 hg.2.1, rfl, FrX_r z⟩⟩
    rw [bI_t h3] at gC
    have gi := c_idn (p := p) (z := z) (l := l) (x := q) (c := c) hb hV hS h1.1 h1.2 h3.1
    have hir := idn_r (f := Fσ σ q.toNat) h3.1
    have hpw := pw_r (k := Fσ σ q.toNat 6) (by omega) (by omega)
    generalize hid : idn (Fσ σ q.toNat) c = y at *
    have gF := c_findB (p := p) (z := z) (l := l) (x := q) (y := y) hb hV hS (by omega) (by omega) (by omega) (by omega)
    have hfr := fBσ_r hV q y
    simp only [if_pos h1, if_pos h3]
    by_cases h5 : fBσ σ q y = -9
    case neg =>
      simp only [if_neg h5]
      generalize p 0 + 1 + 4 + q.toNat = Q0 at *
      simp (disch := first | assumption | omega) only [↓b_hid, bH_some, ↓hid_W, W_some, I3_a, I3_s, I3_m, I3_n, I3_l, I3_lt, I3_le, I3_e, I3_dv, I3_rm, I3_mx, I3_mn, I3_ab, cI, bI_0, bI_1, rZ_b, up_same, up_row, up_col, xr_some, LQ_r, LQ_l, Int.sub_self, Int.add_zero, Int.zero_add, Int.sub_zero, Int.neg_neg, not_true_eq_false, not_false_eq_true, Int.add_sub_cancel, ↓ite_iH, iH_t, iH_f, bH_iH, ↓bH_bind, xr_iH, ↓xr_bind, W_iH, WI_t, WI_f, aR_34, aR_19, sR_19, gR_0_0, pR_0, gI_0, pI_0, iO_0, gR_0_1, gR_0_3, gR_0_4, gR_0_5, gR_0_6, gR_0_7, gR_0_8, gR_0_9, gR_0_10, gR_0_11, gI_B, pI_B, iO_B, gR_B0, gR_B1, aR_B, iO_Tb, gh, gA, iO_P, gC, gi, gF, iH_pos, iH_neg, WI_pos, WI_neg]
      exact ⟨p, z, l, rfl, Or.inr ⟨fun hg => h5 hg.2.2.1, rfl, FrX_r z⟩⟩
    simp only [if_pos h5]
    rw [h5] at gF
    have gb := g_bfull (p := p) (z := z) (l := l) (t := p 0 + 1) hTb (by omega) (by omega)
    rw [e4] at gb
    by_cases h7 : σ 58 < 12
    · rw [bI_f (by omega)] at gb
      simp only [if_pos h7]
      generalize p 0 + 1 + 4 + q.toNat = Q0 at *
      simp (disch := first | assumption | omega) only [↓b_hid, bH_some, ↓hid_W, W_some, I3_a, I3_s, I3_m, I3_n, I3_l, I3_lt, I3_le, I3_e, I3_dv, I3_rm, I3_mx, I3_mn, I3_ab, cI, bI_0, bI_1, rZ_b, up_same, up_row, up_col, xr_some, LQ_r, LQ_l, Int.sub_self, Int.add_zero, Int.zero_add, Int.sub_zero, Int.neg_neg, not_true_eq_false, not_false_eq_true, Int.add_sub_cancel, ↓ite_iH, iH_t, iH_f, bH_iH, ↓bH_bind, xr_iH, ↓xr_bind, W_iH, WI_t, WI_f, aR_34, aR_19, sR_19, gR_0_0, pR_0, gI_0, pI_0, iO_0, gR_0_1, gR_0_3, gR_0_4, gR_0_5, gR_0_6, gR_0_7, gR_0_8, gR_0_9, gR_0_10, gR_0_11, gI_B, pI_B, iO_B, gR_B0, gR_B1, aR_B, iO_Tb, gh, gA, iO_P, gC, gi, gF, gb, iO_0, iH_pos, iH_neg, WI_pos, WI_neg]
      refine W_bH (W_imp (c_save hp hV hS h0 h6 hH) ?_)
      rintro _ ⟨p', z', rfl, a0, a1, a2⟩
      have hST := a1.2.1
      have hb' := a1.1.1 0 (by omega)
      rw [a0] at hST hb'
      have f4 : z' (p 0 + 1) 4 = σ 58 := hST.2.1.2.1
      have gN := g_newB (p := p') (z := z') (l := l) (t := p 0 + 1) (x := q) (y := y) hTb (by omega) (by omega)
      rw [f4] at gN
      generalize hz5 : up (up (up z' (p 0 + 1) 4 (σ 58 + 1)) (p 0 + 1 + 2) (σ 58) q) (p 0 + 1 + 3) (σ 58) y = z5 at gN
      simp (disch := first | assumption | omega) only [↓b_hid, bH_some, ↓hid_W, W_some, I3_a, I3_s, I3_m, I3_n, I3_l, I3_lt, I3_le, I3_e, I3_dv, I3_rm, I3_mx, I3_mn, I3_ab, cI, bI_0, bI_1, rZ_b, up_same, up_row, up_col, xr_some, LQ_r, LQ_l, Int.sub_self, Int.add_zero, Int.zero_add, Int.sub_zero, Int.neg_neg, not_true_eq_false, not_false_eq_true, Int.add_sub_cancel, ↓ite_iH, iH_t, iH_f, bH_iH, ↓bH_bind, xr_iH, ↓xr_bind, W_iH, WI_t, WI_f, iO_Tb, gN]
      have hrow : ∀ c, c ≠ p 0 + 1 → c ≠ p 0 + 1 + 2 → c ≠ p 0 + 1 + 3 → z5 c = z' c := fun c c0 c1 c2 => by rw [← hz5, up_row c2, up_row c1, up_row c0]
      refine ⟨p', z5, l, rfl, Or.inl ⟨⟨h1, h3, h5, h7⟩, CX_mod ⟨h0, h6⟩ a1 (fun c hc _ => hrow c (by omega) (by omega) (by omega)) ?_⟩⟩
      rw [a0]
      refine St_tb hST hV (fun c hc hc' => hrow c (by omega) (by omega) (by omega)) (Nat.le_refl _) ?_ (addB_hi ⟨v58.1, h7⟩)
      refine Tb_addB v3 v58.1 hST.2.1 ?_ ?_ (fun i hi => ?_) (fun i hi => ?_) ?_ ?_ (fun q' hq' => hrow _ (by omega) (by omega) (by omega))
      · rw [← hz5, up_row (by omega), up_row (by omega), up_col (by decide)]
      · rw [← hz5, up_row (by omega), up_row (by omega), up_same]
      · rw [← hz5, up_row (by omega), up_col hi, up_row (by omega)]
      · rw [← hz5, up_col hi, up_row (by omega), up_row (by omega)]
      · rw [← hz5, up_row (by omega), up_same]
      · rw [← hz5, up_same]
    · rw [bI_t (by omega)] at gb
      simp only [if_neg h7]
      generalize p 0 + 1 + 4 + q.toNat = Q0 at *
      simp (disch := first | assumption | omega) only [↓b_hid, bH_some, ↓hid_W, W_some, I3_a, I3_s, I3_m, I3_n, I3_l, I3_lt, I3_le, I3_e, I3_dv, I3_rm, I3_mx, I3_mn, I3_ab, cI, bI_0, bI_1, rZ_b, up_same, up_row, up_col, xr_some, LQ_r, LQ_l, Int.sub_self, Int.add_zero, Int.zero_add, Int.sub_zero, Int.neg_neg, not_true_eq_false, not_false_eq_true, Int.add_sub_cancel, ↓ite_iH, iH_t, iH_f, bH_iH, ↓bH_bind, xr_iH, ↓xr_bind, W_iH, WI_t, WI_f, aR_34, aR_19, sR_19, gR_0_0, pR_0, gI_0, pI_0, iO_0, gR_0_1, gR_0_3, gR_0_4, gR_0_5, gR_0_6, gR_0_7, gR_0_8, gR_0_9, gR_0_10, gR_0_11, gI_B, pI_B, iO_B, gR_B0, gR_B1, aR_B, iO_Tb, gh, gA, iO_P, gC, gi, gF, gb, iH_pos, iH_neg, WI_pos, WI_neg]
      exact ⟨p, z, l, rfl, Or.inr ⟨fun hg => h7 hg.2.2.2, rfl, FrX_r z⟩⟩
  · have v3 := hV.2.2.2.1
    have v58 := hV.2.2.2.2.1
    unfold f_X12_addButton A_addB G_addB
    have gP := m_isProtocol (p := p) (z := z) (l := l) (a := q) (by rw [hσ]; omega) (by rw [hσ]; omega) hq.1 hq.2
    rw [hσ] at gP
    by_cases h1 : 0 ≤ q ∧ q < σ 3
    case neg =>
      rw [bI_f h1] at gP
      simp only [if_neg h1]
      simp (disch := first | assumption | omega) only [↓b_hid, bH_some, ↓hid_W, W_some, I3_a, I3_s, I3_m, I3_n, I3_l, I3_lt, I3_le, I3_e, I3_dv, I3_rm, I3_mx, I3_mn, I3_ab, cI, bI_0, bI_1, rZ_b, up_same, up_row, up_col, xr_some, LQ_r, LQ_l, Int.sub_self, Int.add_zero, Int.zero_add, Int.sub_zero, Int.neg_neg, not_true_eq_false, not_false_eq_true, Int.add_sub_cancel, ↓ite_iH, iH_t, iH_f, bH_iH, ↓bH_bind, xr_iH, ↓xr_bind, W_iH, WI_t, WI_f, gI_189, pI_189, iO_189, gR_189_0, aI_190, sI_190, gR_189_1, aI_191, sI_191, gR_189_3, aI_192, gR_189_10, aI_193, sI_193, gR_189_11, aI_194, sI_194, gR_189_13, aI_195, sI_195, gR_189_15, aI_196, sI_196, gR_189_17, aI_197, sI_197, gR_189_18, aI_198, sI_198, gR_189_19, aI_199, sI_199, gR_189_20, aI_200, sI_200, gR_189_23, aI_201, gR_189_24, aI_202, sI_202, gR_189_25, aI_203, sI_203, gR_189_29, aI_204, sI_204, gR_189_32, aI_205, sI_205, gR_189_35, aI_206, sI_206, pZ_189, gL_189, pL_189, gP, iH_pos, iH_neg, WI_pos, WI_neg]
      exact ⟨z, l, rfl, Or.inr ⟨fun hg => h1 hg.1, FrQ_r z⟩⟩
    rw [bI_t h1] at gP
    have hPV : PV (Fσ σ q.toNat) := hV.2.2.2.2.2.1 q.toNat (by omega)
    have p6 := hPV.2.2.2.2.2.1
    have hq2 : ((q.toNat : Nat) : Int) = q := by omega
    have e6 : z 190 (4 + 9 * q + 6) = Fσ σ q.toNat 6 := by rw [hσ]; unfold Fσ; rw [hq2]
    have gC := m_isCode (p := p) (z := z) (l := l) (q := q) (c := c) (by omega) (by omega) (by rw [e6]; omega) (by rw [e6]; omega) hc.1 hc.2
    rw [e6] at gC
    by_cases h3 : 0 ≤ c ∧ c < pw (Fσ σ q.toNat 6)
    case neg =>
      rw [bI_f h3] at gC
      simp only [if_pos h1, if_neg h3]
      simp (disch := first | assumption | omega) only [↓b_hid, bH_some, ↓hid_W, W_some, I3_a, I3_s, I3_m, I3_n, I3_l, I3_lt, I3_le, I3_e, I3_dv, I3_rm, I3_mx, I3_mn, I3_ab, cI, bI_0, bI_1, rZ_b, up_same, up_row, up_col, xr_some, LQ_r, LQ_l, Int.sub_self, Int.add_zero, Int.zero_add, Int.sub_zero, Int.neg_neg, not_true_eq_false, not_false_eq_true, Int.add_sub_cancel, ↓ite_iH, iH_t, iH_f, bH_iH, ↓bH_bind, xr_iH, ↓xr_bind, W_iH, WI_t, WI_f, gI_189, pI_189, iO_189, gR_189_0, aI_190, sI_190, gR_189_1, aI_191, sI_191, gR_189_3, aI_192, gR_189_10, aI_193, sI_193, gR_189_11, aI_194, sI_194, gR_189_13, aI_195, sI_195, gR_189_15, aI_196, sI_196, gR_189_17, aI_197, sI_197, gR_189_18, aI_198, sI_198, gR_189_19, aI_199, sI_199, gR_189_20, aI_200, sI_200, gR_189_23, aI_201, gR_189_24, aI_202, sI_202, gR_189_25, aI_203, sI_203, gR_189_29, aI_204, sI_204, gR_189_32, aI_205, sI_205, gR_189_35, aI_206, sI_206, pZ_189, gL_189, pL_189, gP, gC, iH_pos, iH_neg, WI_pos, WI_neg]
      exact ⟨z, l, rfl, Or.inr ⟨fun hg => h3 hg.2.1, FrQ_r z⟩⟩
    rw [bI_t h3] at gC
    have gi := m_identity (p := p) (z := z) (l := l) (x := q) (c := c) hσ hV h1.1 h1.2 h3.1
    have hir := idn_r (f := Fσ σ q.toNat) h3.1
    have hpw := pw_r (k := Fσ σ q.toNat 6) (by omega) (by omega)
    have gi2 := fun (z' : Nat → Int → Int) (hh : z' 190 = σ) => m_identity (p := p) (z := z') (l := l) (x := q) (c := c) hh hV h1.1 h1.2 h3.1
    generalize hid : idn (Fσ σ q.toNat) c = y at *
    have gF := m_buttonOf (p := p) (z := z) (l := l) (x := q) (y := y) hσ hV (by omega) (by omega) (by omega) (by omega)
    have hfr := fBσ_r hV q y
    simp only [if_pos h1, if_pos h3]
    by_cases h5 : fBσ σ q y = -9
    case neg =>
      simp only [if_neg h5]
      simp (disch := first | assumption | omega) only [↓b_hid, bH_some, ↓hid_W, W_some, I3_a, I3_s, I3_m, I3_n, I3_l, I3_lt, I3_le, I3_e, I3_dv, I3_rm, I3_mx, I3_mn, I3_ab, cI, bI_0, bI_1, rZ_b, up_same, up_row, up_col, xr_some, LQ_r, LQ_l, Int.sub_self, Int.add_zero, Int.zero_add, Int.sub_zero, Int.neg_neg, not_true_eq_false, not_false_eq_true, Int.add_sub_cancel, ↓ite_iH, iH_t, iH_f, bH_iH, ↓bH_bind, xr_iH, ↓xr_bind, W_iH, WI_t, WI_f, gI_189, pI_189, iO_189, gR_189_0, aI_190, sI_190, gR_189_1, aI_191, sI_191, gR_189_3, aI_192, gR_189_10, aI_193, sI_193, gR_189_11, aI_194, sI_194, gR_189_13, aI_195, sI_195, gR_189_15, aI_196, sI_196, gR_189_17, aI_197, sI_197, gR_189_18, aI_198, sI_198, gR_189_19, aI_199, sI_199, gR_189_20, aI_200, sI_200, gR_189_23, aI_201, gR_189_24, aI_202, sI_202, gR_189_25, aI_203, sI_203, gR_189_29, aI_204, sI_204, gR_189_32, aI_205, sI_205, gR_189_35, aI_206, sI_206, pZ_189, gL_189, pL_189, gP, gC, gi, gF, iH_pos, iH_neg, WI_pos, WI_neg]
      exact ⟨z, l, rfl, Or.inr ⟨fun hg => h5 hg.2.2.1, FrQ_r z⟩⟩
    simp only [if_pos h5]
    rw [h5] at gF
    by_cases h7 : σ 58 < 12
    · simp only [if_pos h7]
      simp (disch := first | assumption | omega) only [↓b_hid, bH_some, ↓hid_W, W_some, I3_a, I3_s, I3_m, I3_n, I3_l, I3_lt, I3_le, I3_e, I3_dv, I3_rm, I3_mx, I3_mn, I3_ab, cI, bI_0, bI_1, rZ_b, up_same, up_row, up_col, xr_some, LQ_r, LQ_l, Int.sub_self, Int.add_zero, Int.zero_add, Int.sub_zero, Int.neg_neg, not_true_eq_false, not_false_eq_true, Int.add_sub_cancel, ↓ite_iH, iH_t, iH_f, bH_iH, ↓bH_bind, xr_iH, ↓xr_bind, W_iH, WI_t, WI_f, gI_189, pI_189, iO_189, gR_189_0, aI_190, sI_190, gR_189_1, aI_191, sI_191, gR_189_3, aI_192, gR_189_10, aI_193, sI_193, gR_189_11, aI_194, sI_194, gR_189_13, aI_195, sI_195, gR_189_15, aI_196, sI_196, gR_189_17, aI_197, sI_197, gR_189_18, aI_198, sI_198, gR_189_19, aI_199, sI_199, gR_189_20, aI_200, sI_200, gR_189_23, aI_201, gR_189_24, aI_202, sI_202, gR_189_25, aI_203, sI_203, gR_189_29, aI_204, sI_204, gR_189_32, aI_205, sI_205, gR_189_35, aI_206, sI_206, pZ_189, gL_189, pL_189, gP, gC, gi, gF, hσ, iH_pos, iH_neg, WI_pos, WI_neg]
      refine W_bH (W_imp (m_noteC hσ hV h2 h0 h6) ?_)
      rintro _ ⟨z1, rfl, a1, a2, a3⟩
      have gi3 := gi2 z1 a1
      simp (disch := first | assumption | omega) only [↓b_hid, bH_some, ↓hid_W, W_some, I3_a, I3_s, I3_m, I3_n, I3_l, I3_lt, I3_le, I3_e, I3_dv, I3_rm, I3_mx, I3_mn, I3_ab, cI, bI_0, bI_1, rZ_b, up_same, up_row, up_col, xr_some, LQ_r, LQ_l, Int.sub_self, Int.add_zero, Int.zero_add, Int.sub_zero, Int.neg_neg, not_true_eq_false, not_false_eq_true, Int.add_sub_cancel, ↓ite_iH, iH_t, iH_f, bH_iH, ↓bH_bind, xr_iH, ↓xr_bind, W_iH, WI_t, WI_f, gI_189, pI_189, iO_189, gR_189_0, aI_190, sI_190, gR_189_1, aI_191, sI_191, gR_189_3, aI_192, gR_189_10, aI_193, sI_193, gR_189_11, aI_194, sI_194, gR_189_13, aI_195, sI_195, gR_189_15, aI_196, sI_196, gR_189_17, aI_197, sI_197, gR_189_18, aI_198, sI_198, gR_189_19, aI_199, sI_199, gR_189_20, aI_200, sI_200, gR_189_23, aI_201, gR_189_24, aI_202, sI_202, gR_189_25, aI_203, sI_203, gR_189_29, aI_204, sI_204, gR_189_32, aI_205, sI_205, gR_189_35, aI_206, sI_206, pZ_189, gL_189, pL_189, gi3]
      refine W_bH (W_imp (m_addsB (x := q) (y := y) a1 v58.1 h7) ?_)
      rintro _ ⟨z3, rfl, c1, c2⟩
      have e58 : z3 190 58 = σ 58 + 1 := by rw [c1]; exact (addB_n v58.1).1
      have e1 : σ 58 + 1 - 1 = σ 58 := by omega
      simp (disch := first | assumption | omega) only [↓b_hid, bH_some, ↓hid_W, W_some, I3_a, I3_s, I3_m, I3_n, I3_l, I3_lt, I3_le, I3_e, I3_dv, I3_rm, I3_mx, I3_mn, I3_ab, cI, bI_0, bI_1, rZ_b, up_same, up_row, up_col, xr_some, LQ_r, LQ_l, Int.sub_self, Int.add_zero, Int.zero_add, Int.sub_zero, Int.neg_neg, not_true_eq_false, not_false_eq_true, Int.add_sub_cancel, ↓ite_iH, iH_t, iH_f, bH_iH, ↓bH_bind, xr_iH, ↓xr_bind, W_iH, WI_t, WI_f, gI_189, pI_189, iO_189, gR_189_0, aI_190, sI_190, gR_189_1, aI_191, sI_191, gR_189_3, aI_192, gR_189_10, aI_193, sI_193, gR_189_11, aI_194, sI_194, gR_189_13, aI_195, sI_195, gR_189_15, aI_196, sI_196, gR_189_17, aI_197, sI_197, gR_189_18, aI_198, sI_198, gR_189_19, aI_199, sI_199, gR_189_20, aI_200, sI_200, gR_189_23, aI_201, gR_189_24, aI_202, sI_202, gR_189_25, aI_203, sI_203, gR_189_29, aI_204, sI_204, gR_189_32, aI_205, sI_205, gR_189_35, aI_206, sI_206, pZ_189, gL_189, pL_189, e58, e1]
      exact ⟨z3, l, rfl, Or.inl ⟨⟨h1, h3, h5, h7⟩, CMo_mod a2 c2 (V_addB hV h7 h1 (by omega)) (fun j j0 j1 => by rw [c1])⟩⟩
    · simp only [if_neg h7]
      have h12 : σ 58 = 12 := by omega
      simp (disch := first | assumption | omega) only [↓b_hid, bH_some, ↓hid_W, W_some, I3_a, I3_s, I3_m, I3_n, I3_l, I3_lt, I3_le, I3_e, I3_dv, I3_rm, I3_mx, I3_mn, I3_ab, cI, bI_0, bI_1, rZ_b, up_same, up_row, up_col, xr_some, LQ_r, LQ_l, Int.sub_self, Int.add_zero, Int.zero_add, Int.sub_zero, Int.neg_neg, not_true_eq_false, not_false_eq_true, Int.add_sub_cancel, ↓ite_iH, iH_t, iH_f, bH_iH, ↓bH_bind, xr_iH, ↓xr_bind, W_iH, WI_t, WI_f, gI_189, pI_189, iO_189, gR_189_0, aI_190, sI_190, gR_189_1, aI_191, sI_191, gR_189_3, aI_192, gR_189_10, aI_193, sI_193, gR_189_11, aI_194, sI_194, gR_189_13, aI_195, sI_195, gR_189_15, aI_196, sI_196, gR_189_17, aI_197, sI_197, gR_189_18, aI_198, sI_198, gR_189_19, aI_199, sI_199, gR_189_20, aI_200, sI_200, gR_189_23, aI_201, gR_189_24, aI_202, sI_202, gR_189_25, aI_203, sI_203, gR_189_29, aI_204, sI_204, gR_189_32, aI_205, sI_205, gR_189_35, aI_206, sI_206, pZ_189, gL_189, pL_189, gP, gC, gi, gF, hσ, h12, iH_pos, iH_neg, WI_pos, WI_neg]
      exact ⟨z, l, rfl, Or.inr ⟨fun hg => by have := hg.2.2.2; omega, FrQ_r z⟩⟩
