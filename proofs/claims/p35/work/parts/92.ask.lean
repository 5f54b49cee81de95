/-! Calls that only ask: both sides alike. -/
theorem i3x (a : Int32) : ∃ s : Int, (-2147483648 ≤ s ∧ s < 2147483648) ∧ a = I3 s := ⟨a.toInt, ⟨by have := Int32.le_toInt a; omega, by have := Int32.toInt_lt a; omega⟩, I3_to a⟩
theorem x_needed {s : Int} (hs : -2147483648 ≤ s ∧ s < 2147483648) : CQ (f_X11_neededTolerance 0 (I3 s)) (fun σ => A_needed σ s) := by
  intro p z l σ hb hV hS
  exact c_needed hb hV hS hs
def A_protocol (σ : Int → Int) (q w : Int) : Int := if 0 ≤ q ∧ q < σ 3 then (if 0 ≤ w ∧ w ≤ 8 then σ (4 + 9 * q + w) else -1) else -1
theorem x_protocol {q : Int} (hq : -2147483648 ≤ q ∧ q < 2147483648) {w : Int} (hw : -2147483648 ≤ w ∧ w < 2147483648) : CQ (f_X11_protocol 0 (I3 q) (I3 w)) (fun σ => A_protocol σ q w) := by
  intro p z l σ hb hV hS
  dsimp only
  obtain ⟨⟨e1, e2⟩, h3, h58⟩ := c_tb hV hS
  have hTb := isTb_B hb
  unfold f_X11_protocol A_protocol
  by_cases h1 : 0 ≤ q ∧ q < σ 3
  case neg =>
    have gh := g_hasP (p := p) (z := z) (l := l) (i := q) hTb (by omega) (by omega) hq.1 hq.2
    rw [e1, bI_f h1] at gh
    rw [if_neg h1]
    simp (disch := first | assumption | omega) only [↓b_hid, bH_some, ↓hid_W, W_some, I3_a, I3_s, I3_m, I3_n, I3_l, I3_lt, I3_le, I3_e, I3_dv, I3_rm, I3_mx, I3_mn, I3_ab, cI, bI_0, bI_1, rZ_b, up_same, up_row, up_col, xr_some, LQ_r, LQ_l, Int.sub_self, Int.add_zero, Int.zero_add, Int.sub_zero, Int.neg_neg, not_true_eq_false, not_false_eq_true, Int.add_sub_cancel, ↓ite_iH, iH_t, iH_f, bH_iH, ↓bH_bind, xr_iH, ↓xr_bind, W_iH, WI_t, WI_f, aR_34, aR_19, sR_19, gR_0_0, pR_0, gI_0, pI_0, iO_0, gR_0_1, gR_0_3, gR_0_4, gR_0_5, gR_0_6, gR_0_7, gR_0_8, gR_0_9, gR_0_10, gR_0_11, gI_B, pI_B, iO_B, gR_B0, gR_B1, aR_B, iO_Tb, gh, iH_pos, iH_neg, WI_pos, WI_neg]
    exact ⟨z, l, rfl, FrX_r z⟩
  have gh := g_hasP (p := p) (z := z) (l := l) (i := q) hTb (by omega) (by omega) hq.1 hq.2
  rw [e1, bI_t h1] at gh
  rw [if_pos h1]
  obtain ⟨c1, c2, c3⟩ := c_pr (q := q.toNat) hV hS (by omega)
  have hP := isP_T hTb (i := q.toNat) (by omega)
  have gA := g_pAt (p := p) (z := z) (l := l) (i := q) hTb (by omega) (by omega)
  have eF : ∀ f : Int, 0 ≤ f → f < 9 → z (p 0 + 1 + 4 + q.toNat) f = σ (4 + 9 * q + f) := fun f f0 f1 => by
    rw [c1 f f0 f1]; unfold Fσ; rw [show ((q.toNat : Nat) : Int) = q by omega]
  by_cases h2 : 0 ≤ w ∧ w ≤ 8
  · rw [if_pos h2]
    generalize p 0 + 1 + 4 + q.toNat = Q0 at *
    rcases f9 h2.1 (by omega) with rfl | rfl | rfl | rfl | rfl | rfl | rfl | rfl | rfl
    · have e := eF 0 (by decide) (by decide)
      simp (disch := first | assumption | omega) only [↓b_hid, bH_some, ↓hid_W, W_some, I3_a, I3_s, I3_m, I3_n, I3_l, I3_lt, I3_le, I3_e, I3_dv, I3_rm, I3_mx, I3_mn, I3_ab, cI, bI_0, bI_1, rZ_b, up_same, up_row, up_col, xr_some, LQ_r, LQ_l, Int.sub_self, Int.add_zero, Int.zero_add, Int.sub_zero, Int.neg_neg, not_true_eq_false, not_false_eq_true, Int.add_sub_cancel, ↓ite_iH, iH_t, iH_f, bH_iH, ↓bH_bind, xr_iH, ↓xr_bind, W_iH, WI_t, WI_f, aR_34, aR_19, sR_19, gR_0_0, pR_0, gI_0, pI_0, iO_0, gR_0_1, gR_0_3, gR_0_4, gR_0_5, gR_0_6, gR_0_7, gR_0_8, gR_0_9, gR_0_10, gR_0_11, gI_B, pI_B, iO_B, gR_B0, gR_B1, aR_B, iO_Tb, gh, gA, gI_P, e, iH_pos, iH_neg, WI_pos, WI_neg]
      exact ⟨z, l, rfl, FrX_r z⟩
    · have e := eF 1 (by decide) (by decide)
      simp (disch := first | assumption | omega) only [↓b_hid, bH_some, ↓hid_W, W_some, I3_a, I3_s, I3_m, I3_n, I3_l, I3_lt, I3_le, I3_e, I3_dv, I3_rm, I3_mx, I3_mn, I3_ab, cI, bI_0, bI_1, rZ_b, up_same, up_row, up_col, xr_some, LQ_r, LQ_l, Int.sub_self, Int.add_zero, Int.zero_add, Int.sub_zero, Int.neg_neg, not_true_eq_false, not_false_eq_true, Int.add_sub_cancel, ↓ite_iH, iH_t, iH_f, bH_iH, ↓bH_bind, xr_iH, ↓xr_bind, W_iH, WI_t, WI_f, aR_34, aR_19, sR_19, gR_0_0, pR_0, gI_0, pI_0, iO_0, gR_0_1, gR_0_3, gR_0_4, gR_0_5, gR_0_6, gR_0_7, gR_0_8, gR_0_9, gR_0_10, gR_0_11, gI_B, pI_B, iO_B, gR_B0, gR_B1, aR_B, iO_Tb, gh, gA, gI_P, e, iH_pos, iH_neg, WI_pos, WI_neg]
      exact ⟨z, l, rfl, FrX_r z⟩
    · have e := eF 2 (by decide) (by decide)
      simp (disch := first | assumption | omega) only [↓b_hid, bH_some, ↓hid_W, W_some, I3_a, I3_s, I3_m, I3_n, I3_l, I3_lt, I3_le, I3_e, I3_dv, I3_rm, I3_mx, I3_mn, I3_ab, cI, bI_0, bI_1, rZ_b, up_same, up_row, up_col, xr_some, LQ_r, LQ_l, Int.sub_self, Int.add_zero, Int.zero_add, Int.sub_zero, Int.neg_neg, not_true_eq_false, not_false_eq_true, Int.add_sub_cancel, ↓ite_iH, iH_t, iH_f, bH_iH, ↓bH_bind, xr_iH, ↓xr_bind, W_iH, WI_t, WI_f, aR_34, aR_19, sR_19, gR_0_0, pR_0, gI_0, pI_0, iO_0, gR_0_1, gR_0_3, gR_0_4, gR_0_5, gR_0_6, gR_0_7, gR_0_8, gR_0_9, gR_0_10, gR_0_11, gI_B, pI_B, iO_B, gR_B0, gR_B1, aR_B, iO_Tb, gh, gA, gI_P, e, iH_pos, iH_neg, WI_pos, WI_neg]
      exact ⟨z, l, rfl, FrX_r z⟩
    · have e := eF 3 (by decide) (by decide)
      simp (disch := first | assumption | omega) only [↓b_hid, bH_some, ↓hid_W, W_some, I3_a, I3_s, I3_m, I3_n, I3_l, I3_lt, I3_le, I3_e, I3_dv, I3_rm, I3_mx, I3_mn, I3_ab, cI, bI_0, bI_1, rZ_b, up_same, up_row, up_col, xr_some, LQ_r, LQ_l, Int.sub_self, Int.add_zero, Int.zero_add, Int.sub_zero, Int.neg_neg, not_true_eq_false, not_false_eq_true, Int.add_sub_cancel, ↓ite_iH, iH_t, iH_f, bH_iH, ↓bH_bind, xr_iH, ↓xr_bind, W_iH, WI_t, WI_f, aR_34, aR_19, sR_19, gR_0_0, pR_0, gI_0, pI_0, iO_0, gR_0_1, gR_0_3, gR_0_4, gR_0_5, gR_0_6, gR_0_7, gR_0_8, gR_0_9, gR_0_10, gR_0_11, gI_B, pI_B, iO_B, gR_B0, gR_B1, aR_B, iO_Tb, gh, gA, gI_P, e, iH_pos, iH_neg, WI_pos, WI_neg]
      exact ⟨z, l, rfl, FrX_r z⟩
    · have e := eF 4 (by decide) (by decide)
      simp (disch := first | assumption | omega) only [↓b_hid, bH_some, ↓hid_W, W_some, I3_a, I3_s, I3_m, I3_n, I3_l, I3_lt, I3_le, I3_e, I3_dv, I3_rm, I3_mx, I3_mn, I3_ab, cI, bI_0, bI_1, rZ_b, up_same, up_row, up_col, xr_some, LQ_r, LQ_l, Int.sub_self, Int.add_zero, Int.zero_add, Int.sub_zero, Int.neg_neg, not_true_eq_false, not_false_eq_true, Int.add_sub_cancel, ↓ite_iH, iH_t, iH_f, bH_iH, ↓bH_bind, xr_iH, ↓xr_bind, W_iH, WI_t, WI_f, aR_34, aR_19, sR_19, gR_0_0, pR_0, gI_0, pI_0, iO_0, gR_0_1, gR_0_3, gR_0_4, gR_0_5, gR_0_6, gR_0_7, gR_0_8, gR_0_9, gR_0_10, gR_0_11, gI_B, pI_B, iO_B, gR_B0, gR_B1, aR_B, iO_Tb, gh, gA, gI_P, e, iH_pos, iH_neg, WI_pos, WI_neg]
      exact ⟨z, l, rfl, FrX_r z⟩
    · have e := eF 5 (by decide) (by decide)
      simp (disch := first | assumption | omega) only [↓b_hid, bH_some, ↓hid_W, W_some, I3_a, I3_s, I3_m, I3_n, I3_l, I3_lt, I3_le, I3_e, I3_dv, I3_rm, I3_mx, I3_mn, I3_ab, cI, bI_0, bI_1, rZ_b, up_same, up_row, up_col, xr_some, LQ_r, LQ_l, Int.sub_self, Int.add_zero, Int.zero_add, Int.sub_zero, Int.neg_neg, not_true_eq_false, not_false_eq_true, Int.add_sub_cancel, ↓ite_iH, iH_t, iH_f, bH_iH, ↓bH_bind, xr_iH, ↓xr_bind, W_iH, WI_t, WI_f, aR_34, aR_19, sR_19, gR_0_0, pR_0, gI_0, pI_0, iO_0, gR_0_1, gR_0_3, gR_0_4, gR_0_5, gR_0_6, gR_0_7, gR_0_8, gR_0_9, gR_0_10, gR_0_11, gI_B, pI_B, iO_B, gR_B0, gR_B1, aR_B, iO_Tb, gh, gA, gI_P, e, iH_pos, iH_neg, WI_pos, WI_neg]
      exact ⟨z, l, rfl, FrX_r z⟩
    · have e := eF 6 (by decide) (by decide)
      simp (disch := first | assumption | omega) only [↓b_hid, bH_some, ↓hid_W, W_some, I3_a, I3_s, I3_m, I3_n, I3_l, I3_lt, I3_le, I3_e, I3_dv, I3_rm, I3_mx, I3_mn, I3_ab, cI, bI_0, bI_1, rZ_b, up_same, up_row, up_col, xr_some, LQ_r, LQ_l, Int.sub_self, Int.add_zero, Int.zero_add, Int.sub_zero, Int.neg_neg, not_true_eq_false, not_false_eq_true, Int.add_sub_cancel, ↓ite_iH, iH_t, iH_f, bH_iH, ↓bH_bind, xr_iH, ↓xr_bind, W_iH, WI_t, WI_f, aR_34, aR_19, sR_19, gR_0_0, pR_0, gI_0, pI_0, iO_0, gR_0_1, gR_0_3, gR_0_4, gR_0_5, gR_0_6, gR_0_7, gR_0_8, gR_0_9, gR_0_10, gR_0_11, gI_B, pI_B, iO_B, gR_B0, gR_B1, aR_B, iO_Tb, gh, gA, gI_P, e, iH_pos, iH_neg, WI_pos, WI_neg]
      exact ⟨z, l, rfl, FrX_r z⟩
    · have e := eF 7 (by decide) (by decide)
      simp (disch := first | assumption | omega) only [↓b_hid, bH_some, ↓hid_W, W_some, I3_a, I3_s, I3_m, I3_n, I3_l, I3_lt, I3_le, I3_e, I3_dv, I3_rm, I3_mx, I3_mn, I3_ab, cI, bI_0, bI_1, rZ_b, up_same, up_row, up_col, xr_some, LQ_r, LQ_l, Int.sub_self, Int.add_zero, Int.zero_add, Int.sub_zero, Int.neg_neg, not_true_eq_false, not_false_eq_true, Int.add_sub_cancel, ↓ite_iH, iH_t, iH_f, bH_iH, ↓bH_bind, xr_iH, ↓xr_bind, W_iH, WI_t, WI_f, aR_34, aR_19, sR_19, gR_0_0, pR_0, gI_0, pI_0, iO_0, gR_0_1, gR_0_3, gR_0_4, gR_0_5, gR_0_6, gR_0_7, gR_0_8, gR_0_9, gR_0_10, gR_0_11, gI_B, pI_B, iO_B, gR_B0, gR_B1, aR_B, iO_Tb, gh, gA, gI_P, e, iH_pos, iH_neg, WI_pos, WI_neg]
      exact ⟨z, l, rfl, FrX_r z⟩
    · have e := eF 8 (by decide) (by decide)
      simp (disch := first | assumption | omega) only [↓b_hid, bH_some, ↓hid_W, W_some, I3_a, I3_s, I3_m, I3_n, I3_l, I3_lt, I3_le, I3_e, I3_dv, I3_rm, I3_mx, I3_mn, I3_ab, cI, bI_0, bI_1, rZ_b, up_same, up_row, up_col, xr_some, LQ_r, LQ_l, Int.sub_self, Int.add_zero, Int.zero_add, Int.sub_zero, Int.neg_neg, not_true_eq_false, not_false_eq_true, Int.add_sub_cancel, ↓ite_iH, iH_t, iH_f, bH_iH, ↓bH_bind, xr_iH, ↓xr_bind, W_iH, WI_t, WI_f, aR_34, aR_19, sR_19, gR_0_0, pR_0, gI_0, pI_0, iO_0, gR_0_1, gR_0_3, gR_0_4, gR_0_5, gR_0_6, gR_0_7, gR_0_8, gR_0_9, gR_0_10, gR_0_11, gI_B, pI_B, iO_B, gR_B0, gR_B1, aR_B, iO_Tb, gh, gA, gI_P, e, iH_pos, iH_neg, WI_pos, WI_neg]
      exact ⟨z, l, rfl, FrX_r z⟩
  · rw [if_neg h2]
    generalize p 0 + 1 + 4 + q.toNat = Q0 at *
    simp (disch := first | assumption | omega) only [↓b_hid, bH_some, ↓hid_W, W_some, I3_a, I3_s, I3_m, I3_n, I3_l, I3_lt, I3_le, I3_e, I3_dv, I3_rm, I3_mx, I3_mn, I3_ab, cI, bI_0, bI_1, rZ_b, up_same, up_row, up_col, xr_some, LQ_r, LQ_l, Int.sub_self, Int.add_zero, Int.zero_add, Int.sub_zero, Int.neg_neg, not_true_eq_false, not_false_eq_true, Int.add_sub_cancel, ↓ite_iH, iH_t, iH_f, bH_iH, ↓bH_bind, xr_iH, ↓xr_bind, W_iH, WI_t, WI_f, aR_34, aR_19, sR_19, gR_0_0, pR_0, gI_0, pI_0, iO_0, gR_0_1, gR_0_3, gR_0_4, gR_0_5, gR_0_6, gR_0_7, gR_0_8, gR_0_9, gR_0_10, gR_0_11, gI_B, pI_B, iO_B, gR_B0, gR_B1, aR_B, iO_Tb, gh, gA, iH_pos, iH_neg, WI_pos, WI_neg]
    exact ⟨z, l, rfl, FrX_r z⟩
def A_length (σ : Int → Int) (s : Int) : Int := if 0 ≤ s ∧ s ≤ 2 then σ (83 + s) else -1
theorem x_length {s : Int} (hs : -2147483648 ≤ s ∧ s < 2147483648) : CQ (f_X11_length 0 (I3 s)) (fun σ => A_length σ s) := by
  intro p z l σ hb hV hS
  dsimp only
  unfold f_X11_length A_length
  by_cases h1 : 0 ≤ s ∧ s ≤ 2
  · have hT := isT_B hb (s := s.toNat) (by omega)
    have e := (hS.2.2 s.toNat (by omega)).1
    rw [show ((s.toNat : Nat) : Int) = s by omega] at e
    rw [if_pos h1]
    simp (disch := first | assumption | omega) only [↓b_hid, bH_some, ↓hid_W, W_some, I3_a, I3_s, I3_m, I3_n, I3_l, I3_lt, I3_le, I3_e, I3_dv, I3_rm, I3_mx, I3_mn, I3_ab, cI, bI_0, bI_1, rZ_b, up_same, up_row, up_col, xr_some, LQ_r, LQ_l, Int.sub_self, Int.add_zero, Int.zero_add, Int.sub_zero, Int.neg_neg, not_true_eq_false, not_false_eq_true, Int.add_sub_cancel, ↓ite_iH, iH_t, iH_f, bH_iH, ↓bH_bind, xr_iH, ↓xr_bind, W_iH, WI_t, WI_f, aR_34, aR_19, sR_19, gR_0_0, pR_0, gI_0, pI_0, iO_0, gR_0_1, gR_0_3, gR_0_4, gR_0_5, gR_0_6, gR_0_7, gR_0_8, gR_0_9, gR_0_10, gR_0_11, gI_B, pI_B, iO_B, gR_B0, gR_B1, aR_B, g_isSlot, bI_t, g_trAt, gI_T, e, iH_pos, iH_neg, WI_pos, WI_neg]
    exact ⟨z, l, rfl, FrX_r z⟩
  · rw [if_neg h1]
    simp (disch := first | assumption | omega) only [↓b_hid, bH_some, ↓hid_W, W_some, I3_a, I3_s, I3_m, I3_n, I3_l, I3_lt, I3_le, I3_e, I3_dv, I3_rm, I3_mx, I3_mn, I3_ab, cI, bI_0, bI_1, rZ_b, up_same, up_row, up_col, xr_some, LQ_r, LQ_l, Int.sub_self, Int.add_zero, Int.zero_add, Int.sub_zero, Int.neg_neg, not_true_eq_false, not_false_eq_true, Int.add_sub_cancel, ↓ite_iH, iH_t, iH_f, bH_iH, ↓bH_bind, xr_iH, ↓xr_bind, W_iH, WI_t, WI_f, g_isSlot, bI_f, iH_pos, iH_neg, WI_pos, WI_neg]
    exact ⟨z, l, rfl, FrX_r z⟩
def A_duration (σ : Int → Int) (s i : Int) : Int := if 0 ≤ s ∧ s ≤ 2 then (if 0 ≤ i then (if i < σ (83 + s) then σ (86 + 200 * s + i) else -9) else -1) else -1
theorem x_duration {s : Int} (hs : -2147483648 ≤ s ∧ s < 2147483648) {i : Int} (hi : -2147483648 ≤ i ∧ i < 2147483648) : CQ (f_X11_duration 0 (I3 s) (I3 i)) (fun σ => A_duration σ s i) := by
  intro p z l σ hb hV hS
  dsimp only
  unfold f_X11_duration A_duration
  by_cases h1 : 0 ≤ s ∧ s ≤ 2
  · have hT := isT_B hb (s := s.toNat) (by omega)
    obtain ⟨e, ed⟩ := hS.2.2 s.toNat (by omega)
    have hv := (σ_tr hV (s := s.toNat) (by omega)).1
    simp only [show ((s.toNat : Nat) : Int) = s by omega] at e ed hv
    rw [if_pos h1]
    by_cases h2 : 0 ≤ i
    · rw [if_pos h2]
      by_cases h3 : i < σ (83 + s)
      · have ga := g_at (p := p) (z := z) (l := l) (i := i) hT (by omega) (by omega) hi.1 hi.2
        rw [tat_in h2 (by omega), ed i h2 h3] at ga
        rw [if_pos h3]
        simp (disch := first | assumption | omega) only [↓b_hid, bH_some, ↓hid_W, W_some, I3_a, I3_s, I3_m, I3_n, I3_l, I3_lt, I3_le, I3_e, I3_dv, I3_rm, I3_mx, I3_mn, I3_ab, cI, bI_0, bI_1, rZ_b, up_same, up_row, up_col, xr_some, LQ_r, LQ_l, Int.sub_self, Int.add_zero, Int.zero_add, Int.sub_zero, Int.neg_neg, not_true_eq_false, not_false_eq_true, Int.add_sub_cancel, ↓ite_iH, iH_t, iH_f, bH_iH, ↓bH_bind, xr_iH, ↓xr_bind, W_iH, WI_t, WI_f, aR_34, aR_19, sR_19, gR_0_0, pR_0, gI_0, pI_0, iO_0, gR_0_1, gR_0_3, gR_0_4, gR_0_5, gR_0_6, gR_0_7, gR_0_8, gR_0_9, gR_0_10, gR_0_11, gI_B, pI_B, iO_B, gR_B0, gR_B1, aR_B, g_isSlot, bI_t, g_trAt, gI_T, e, iO_T, ga, iH_pos, iH_neg, WI_pos, WI_neg]
        exact ⟨z, l, rfl, FrX_r z⟩
      · rw [if_neg h3]
        simp (disch := first | assumption | omega) only [↓b_hid, bH_some, ↓hid_W, W_some, I3_a, I3_s, I3_m, I3_n, I3_l, I3_lt, I3_le, I3_e, I3_dv, I3_rm, I3_mx, I3_mn, I3_ab, cI, bI_0, bI_1, rZ_b, up_same, up_row, up_col, xr_some, LQ_r, LQ_l, Int.sub_self, Int.add_zero, Int.zero_add, Int.sub_zero, Int.neg_neg, not_true_eq_false, not_false_eq_true, Int.add_sub_cancel, ↓ite_iH, iH_t, iH_f, bH_iH, ↓bH_bind, xr_iH, ↓xr_bind, W_iH, WI_t, WI_f, aR_34, aR_19, sR_19, gR_0_0, pR_0, gI_0, pI_0, iO_0, gR_0_1, gR_0_3, gR_0_4, gR_0_5, gR_0_6, gR_0_7, gR_0_8, gR_0_9, gR_0_10, gR_0_11, gI_B, pI_B, iO_B, gR_B0, gR_B1, aR_B, g_isSlot, bI_t, g_trAt, gI_T, e, iH_pos, iH_neg, WI_pos, WI_neg]
        exact ⟨z, l, rfl, FrX_r z⟩
    · rw [if_neg h2]
      simp (disch := first | assumption | omega) only [↓b_hid, bH_some, ↓hid_W, W_some, I3_a, I3_s, I3_m, I3_n, I3_l, I3_lt, I3_le, I3_e, I3_dv, I3_rm, I3_mx, I3_mn, I3_ab, cI, bI_0, bI_1, rZ_b, up_same, up_row, up_col, xr_some, LQ_r, LQ_l, Int.sub_self, Int.add_zero, Int.zero_add, Int.sub_zero, Int.neg_neg, not_true_eq_false, not_false_eq_true, Int.add_sub_cancel, ↓ite_iH, iH_t, iH_f, bH_iH, ↓bH_bind, xr_iH, ↓xr_bind, W_iH, WI_t, WI_f, g_isSlot, bI_t, iH_pos, iH_neg, WI_pos, WI_neg]
      exact ⟨z, l, rfl, FrX_r z⟩
  · rw [if_neg h1]
    simp (disch := first | assumption | omega) only [↓b_hid, bH_some, ↓hid_W, W_some, I3_a, I3_s, I3_m, I3_n, I3_l, I3_lt, I3_le, I3_e, I3_dv, I3_rm, I3_mx, I3_mn, I3_ab, cI, bI_0, bI_1, rZ_b, up_same, up_row, up_col, xr_some, LQ_r, LQ_l, Int.sub_self, Int.add_zero, Int.zero_add, Int.sub_zero, Int.neg_neg, not_true_eq_false, not_false_eq_true, Int.add_sub_cancel, ↓ite_iH, iH_t, iH_f, bH_iH, ↓bH_bind, xr_iH, ↓xr_bind, W_iH, WI_t, WI_f, g_isSlot, bI_f, iH_pos, iH_neg, WI_pos, WI_neg]
    exact ⟨z, l, rfl, FrX_r z⟩
noncomputable def A_pcount (σ : Int → Int) (s : Int) : Int := if 0 ≤ s ∧ s ≤ 2 then (psσ σ s.toNat (lnσ σ s.toNat)).1.2.2.2.2.1 else -1
theorem x_pressCount {s : Int} (hs : -2147483648 ≤ s ∧ s < 2147483648) : CQ (f_X11_pressCount 0 (I3 s)) (fun σ => A_pcount σ s) := by
  intro p z l σ hb hV hS
  dsimp only
  unfold f_X11_pressCount A_pcount
  by_cases h1 : 0 ≤ s ∧ s ≤ 2
  · have hss : s = ((s.toNat : Nat) : Int) := by omega
    rw [if_pos h1]
    simp (disch := first | assumption | omega) only [↓b_hid, bH_some, ↓hid_W, W_some, I3_a, I3_s, I3_m, I3_n, I3_l, I3_lt, I3_le, I3_e, I3_dv, I3_rm, I3_mx, I3_mn, I3_ab, cI, bI_0, bI_1, rZ_b, up_same, up_row, up_col, xr_some, LQ_r, LQ_l, Int.sub_self, Int.add_zero, Int.zero_add, Int.sub_zero, Int.neg_neg, not_true_eq_false, not_false_eq_true, Int.add_sub_cancel, ↓ite_iH, iH_t, iH_f, bH_iH, ↓bH_bind, xr_iH, ↓xr_bind, W_iH, WI_t, WI_f, aR_34, aR_19, sR_19, gR_0_0, pR_0, gI_0, pI_0, iO_0, gR_0_1, gR_0_3, gR_0_4, gR_0_5, gR_0_6, gR_0_7, gR_0_8, gR_0_9, gR_0_10, gR_0_11, g_isSlot, bI_t, gR_0_9, gR_0_7, gR_0_8, iO_43, iH_pos, iH_neg, WI_pos, WI_neg]
    generalize s.toNat = sn at *
    subst hss
    refine W_bH (W_imp (w_find hb hV hS (by omega)) ?_)
    rintro _ ⟨z1, l1, rfl, a1, a2, a3⟩
    have e := a1.1
    simp (disch := first | assumption | omega) only [↓b_hid, bH_some, ↓hid_W, W_some, I3_a, I3_s, I3_m, I3_n, I3_l, I3_lt, I3_le, I3_e, I3_dv, I3_rm, I3_mx, I3_mn, I3_ab, cI, bI_0, bI_1, rZ_b, up_same, up_row, up_col, xr_some, LQ_r, LQ_l, Int.sub_self, Int.add_zero, Int.zero_add, Int.sub_zero, Int.neg_neg, not_true_eq_false, not_false_eq_true, Int.add_sub_cancel, ↓ite_iH, iH_t, iH_f, bH_iH, ↓bH_bind, xr_iH, ↓xr_bind, W_iH, WI_t, WI_f, aR_34, aR_19, sR_19, gR_0_0, pR_0, gI_0, pI_0, iO_0, gR_0_1, gR_0_3, gR_0_4, gR_0_5, gR_0_6, gR_0_7, gR_0_8, gR_0_9, gR_0_10, gR_0_11, gI_43, pI_43, iO_43, gR_43_0, aI_44, sI_44, gR_43_1, aI_45, sI_45, gR_43_2, aI_46, sI_46, pZ_43, gR_0_9, e]
    exact ⟨z1, l1, rfl, fun k hk => a2 k (by omega)⟩
  · rw [if_neg h1]
    simp (disch := first | assumption | omega) only [↓b_hid, bH_some, ↓hid_W, W_some, I3_a, I3_s, I3_m, I3_n, I3_l, I3_lt, I3_le, I3_e, I3_dv, I3_rm, I3_mx, I3_mn, I3_ab, cI, bI_0, bI_1, rZ_b, up_same, up_row, up_col, xr_some, LQ_r, LQ_l, Int.sub_self, Int.add_zero, Int.zero_add, Int.sub_zero, Int.neg_neg, not_true_eq_false, not_false_eq_true, Int.add_sub_cancel, ↓ite_iH, iH_t, iH_f, bH_iH, ↓bH_bind, xr_iH, ↓xr_bind, W_iH, WI_t, WI_f, g_isSlot, bI_f, iH_pos, iH_neg, WI_pos, WI_neg]
    exact ⟨z, l, rfl, FrX_r z⟩
noncomputable def A_stray (σ : Int → Int) (s : Int) : Int := if 0 ≤ s ∧ s ≤ 2 then (psσ σ s.toNat (lnσ σ s.toNat)).1.2.2.2.2.2 else -1
theorem x_strayCount {s : Int} (hs : -2147483648 ≤ s ∧ s < 2147483648) : CQ (f_X11_strayCount 0 (I3 s)) (fun σ => A_stray σ s) := by
  intro p z l σ hb hV hS
  dsimp only
  unfold f_X11_strayCount A_stray
  by_cases h1 : 0 ≤ s ∧ s ≤ 2
  · have hss : s = ((s.toNat : Nat) : Int) := by omega
    rw [if_pos h1]
    simp (disch := first | assumption | omega) only [↓b_hid, bH_some, ↓hid_W, W_some, I3_a, I3_s, I3_m, I3_n, I3_l, I3_lt, I3_le, I3_e, I3_dv, I3_rm, I3_mx, I3_mn, I3_ab, cI, bI_0, bI_1, rZ_b, up_same, up_row, up_col, xr_some, LQ_r, LQ_l, Int.sub_self, Int.add_zero, Int.zero_add, Int.sub_zero, Int.neg_neg, not_true_eq_false, not_false_eq_true, Int.add_sub_cancel, ↓ite_iH, iH_t, iH_f, bH_iH, ↓bH_bind, xr_iH, ↓xr_bind, W_iH, WI_t, WI_f, aR_34, aR_19, sR_19, gR_0_0, pR_0, gI_0, pI_0, iO_0, gR_0_1, gR_0_3, gR_0_4, gR_0_5, gR_0_6, gR_0_7, gR_0_8, gR_0_9, gR_0_10, gR_0_11, g_isSlot, bI_t, gR_0_9, gR_0_7, gR_0_8, iO_43, iH_pos, iH_neg, WI_pos, WI_neg]
    generalize s.toNat = sn at *
    subst hss
    refine W_bH (W_imp (w_find hb hV hS (by omega)) ?_)
    rintro _ ⟨z1, l1, rfl, a1, a2, a3⟩
    have e := a1.2.1
    simp (disch := first | assumption | omega) only [↓b_hid, bH_some, ↓hid_W, W_some, I3_a, I3_s, I3_m, I3_n, I3_l, I3_lt, I3_le, I3_e, I3_dv, I3_rm, I3_mx, I3_mn, I3_ab, cI, bI_0, bI_1, rZ_b, up_same, up_row, up_col, xr_some, LQ_r, LQ_l, Int.sub_self, Int.add_zero, Int.zero_add, Int.sub_zero, Int.neg_neg, not_true_eq_false, not_false_eq_true, Int.add_sub_cancel, ↓ite_iH, iH_t, iH_f, bH_iH, ↓bH_bind, xr_iH, ↓xr_bind, W_iH, WI_t, WI_f, aR_34, aR_19, sR_19, gR_0_0, pR_0, gI_0, pI_0, iO_0, gR_0_1, gR_0_3, gR_0_4, gR_0_5, gR_0_6, gR_0_7, gR_0_8, gR_0_9, gR_0_10, gR_0_11, gI_43, pI_43, iO_43, gR_43_0, aI_44, sI_44, gR_43_1, aI_45, sI_45, gR_43_2, aI_46, sI_46, pZ_43, gR_0_9, e]
    exact ⟨z1, l1, rfl, fun k hk => a2 k (by omega)⟩
  · rw [if_neg h1]
    simp (disch := first | assumption | omega) only [↓b_hid, bH_some, ↓hid_W, W_some, I3_a, I3_s, I3_m, I3_n, I3_l, I3_lt, I3_le, I3_e, I3_dv, I3_rm, I3_mx, I3_mn, I3_ab, cI, bI_0, bI_1, rZ_b, up_same, up_row, up_col, xr_some, LQ_r, LQ_l, Int.sub_self, Int.add_zero, Int.zero_add, Int.sub_zero, Int.neg_neg, not_true_eq_false, not_false_eq_true, Int.add_sub_cancel, ↓ite_iH, iH_t, iH_f, bH_iH, ↓bH_bind, xr_iH, ↓xr_bind, W_iH, WI_t, WI_f, g_isSlot, bI_f, iH_pos, iH_neg, WI_pos, WI_neg]
    exact ⟨z, l, rfl, FrX_r z⟩
def A_fcount (σ : Int → Int) (s : Int) : Int := if 0 ≤ s ∧ s ≤ 2 then (Lσ σ s.toNat).length else -1
theorem x_frameCount {s : Int} (hs : -2147483648 ≤ s ∧ s < 2147483648) : CQ (f_X11_frameCount 0 (I3 s)) (fun σ => A_fcount σ s) := by
  intro p z l σ hb hV hS
  dsimp only
  have eg : z (p 0) 2 = σ 0 := hS.1.1
  unfold f_X11_frameCount A_fcount
  by_cases h1 : 0 ≤ s ∧ s ≤ 2
  · rw [if_pos h1]
    simp (disch := first | assumption | omega) only [↓b_hid, bH_some, ↓hid_W, W_some, I3_a, I3_s, I3_m, I3_n, I3_l, I3_lt, I3_le, I3_e, I3_dv, I3_rm, I3_mx, I3_mn, I3_ab, cI, bI_0, bI_1, rZ_b, up_same, up_row, up_col, xr_some, LQ_r, LQ_l, Int.sub_self, Int.add_zero, Int.zero_add, Int.sub_zero, Int.neg_neg, not_true_eq_false, not_false_eq_true, Int.add_sub_cancel, ↓ite_iH, iH_t, iH_f, bH_iH, ↓bH_bind, xr_iH, ↓xr_bind, W_iH, WI_t, WI_f, aR_34, aR_19, sR_19, gR_0_0, pR_0, gI_0, pI_0, iO_0, gR_0_1, gR_0_3, gR_0_4, gR_0_5, gR_0_6, gR_0_7, gR_0_8, gR_0_9, gR_0_10, gR_0_11, gI_B, pI_B, iO_B, gR_B0, gR_B1, aR_B, g_isSlot, bI_t, g_trAt, gR_0_7, iO_35, eg, iH_pos, iH_neg, WI_pos, WI_neg]
    refine W_bH (W_imp (c_split (s := s.toNat) hb hV hS (by omega)) ?_)
    rintro _ ⟨z1, rfl, a1, a2⟩
    have e : z1 35 2 = (Lσ σ s.toNat).length := a1.2.1
    simp (disch := first | assumption | omega) only [↓b_hid, bH_some, ↓hid_W, W_some, I3_a, I3_s, I3_m, I3_n, I3_l, I3_lt, I3_le, I3_e, I3_dv, I3_rm, I3_mx, I3_mn, I3_ab, cI, bI_0, bI_1, rZ_b, up_same, up_row, up_col, xr_some, LQ_r, LQ_l, Int.sub_self, Int.add_zero, Int.zero_add, Int.sub_zero, Int.neg_neg, not_true_eq_false, not_false_eq_true, Int.add_sub_cancel, ↓ite_iH, iH_t, iH_f, bH_iH, ↓bH_bind, xr_iH, ↓xr_bind, W_iH, WI_t, WI_f, aR_34, aR_19, sR_19, gR_0_0, pR_0, gI_0, pI_0, iO_0, gR_0_1, gR_0_3, gR_0_4, gR_0_5, gR_0_6, gR_0_7, gR_0_8, gR_0_9, gR_0_10, gR_0_11, gI_35, pI_35, iO_35, gR_35_0, aI_36, sI_36, gR_35_1, aI_37, sI_37, gR_35_3, gR_0_7, e]
    exact ⟨z1, l, rfl, fun k hk => a2 k (by omega)⟩
  · rw [if_neg h1]
    simp (disch := first | assumption | omega) only [↓b_hid, bH_some, ↓hid_W, W_some, I3_a, I3_s, I3_m, I3_n, I3_l, I3_lt, I3_le, I3_e, I3_dv, I3_rm, I3_mx, I3_mn, I3_ab, cI, bI_0, bI_1, rZ_b, up_same, up_row, up_col, xr_some, LQ_r, LQ_l, Int.sub_self, Int.add_zero, Int.zero_add, Int.sub_zero, Int.neg_neg, not_true_eq_false, not_false_eq_true, Int.add_sub_cancel, ↓ite_iH, iH_t, iH_f, bH_iH, ↓bH_bind, xr_iH, ↓xr_bind, W_iH, WI_t, WI_f, g_isSlot, bI_f, iH_pos, iH_neg, WI_pos, WI_neg]
    exact ⟨z, l, rfl, FrX_r z⟩
