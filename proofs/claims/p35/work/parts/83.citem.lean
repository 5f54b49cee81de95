/-! The class reads the items of a text. -/
def lensOk (k h s a b c : Int) : Prop := (50 ≤ h ∧ h ≤ 20000) ∧ (50 ≤ s ∧ s ≤ 20000) ∧ (50 ≤ a ∧ a ≤ 20000) ∧ (k = 2 ∧ b = 0 ∧ c = 0 ∨ k ≠ 2 ∧ (50 ≤ b ∧ b ≤ 20000) ∧ (50 ≤ c ∧ c ≤ 20000) ∧ b ≠ c)
section
variable {k h s a b c : Int} {μ : MS}
theorem g_lens_t (hk : -2147483648 ≤ k ∧ k < 2147483648) (hl : lensOk k h s a b c) : f_X11_lengthsPossible (I3 k) (I3 h) (I3 s) (I3 a) (I3 b) (I3 c) μ = some (I3 1, μ) := by
  obtain ⟨h1, h2, h3, h4⟩ := hl
  apply W_eq; unfold f_X11_lengthsPossible
  rcases h4 with ⟨h4, h5, h6⟩ | ⟨h4, h5, h6, h7⟩
  · simp (disch := first | assumption | omega) only [↓b_hid, bH_some, ↓hid_W, W_some, I3_a, I3_s, I3_m, I3_n, I3_l, I3_lt, I3_le, I3_e, I3_dv, I3_rm, I3_mx, I3_mn, I3_ab, cI, bI_0, bI_1, rZ_b, up_same, up_row, up_col, xr_some, LQ_r, LQ_l, Int.sub_self, Int.add_zero, Int.zero_add, Int.sub_zero, Int.neg_neg, not_true_eq_false, not_false_eq_true, Int.add_sub_cancel, ↓ite_iH, iH_t, iH_f, bH_iH, ↓bH_bind, xr_iH, ↓xr_bind, W_iH, WI_t, WI_f, g_isLength, bI_t, iH_pos, iH_neg, WI_pos, WI_neg]
  · simp (disch := first | assumption | omega) only [↓b_hid, bH_some, ↓hid_W, W_some, I3_a, I3_s, I3_m, I3_n, I3_l, I3_lt, I3_le, I3_e, I3_dv, I3_rm, I3_mx, I3_mn, I3_ab, cI, bI_0, bI_1, rZ_b, up_same, up_row, up_col, xr_some, LQ_r, LQ_l, Int.sub_self, Int.add_zero, Int.zero_add, Int.sub_zero, Int.neg_neg, not_true_eq_false, not_false_eq_true, Int.add_sub_cancel, ↓ite_iH, iH_t, iH_f, bH_iH, ↓bH_bind, xr_iH, ↓xr_bind, W_iH, WI_t, WI_f, g_isLength, bI_t, iH_pos, iH_neg, WI_pos, WI_neg]
theorem g_lens_f (hk : -2147483648 ≤ k ∧ k < 2147483648) (hh : -2147483648 ≤ h ∧ h < 2147483648) (hs : -2147483648 ≤ s ∧ s < 2147483648) (ha : -2147483648 ≤ a ∧ a < 2147483648) (hb : -2147483648 ≤ b ∧ b < 2147483648) (hc : -2147483648 ≤ c ∧ c < 2147483648) (hl : ¬lensOk k h s a b c) : f_X11_lengthsPossible (I3 k) (I3 h) (I3 s) (I3 a) (I3 b) (I3 c) μ = some (I3 0, μ) := by
  apply W_eq; unfold f_X11_lengthsPossible
  by_cases h1 : 50 ≤ h ∧ h ≤ 20000
  case neg => simp (disch := first | assumption | omega) only [↓b_hid, bH_some, ↓hid_W, W_some, I3_a, I3_s, I3_m, I3_n, I3_l, I3_lt, I3_le, I3_e, I3_dv, I3_rm, I3_mx, I3_mn, I3_ab, cI, bI_0, bI_1, rZ_b, up_same, up_row, up_col, xr_some, LQ_r, LQ_l, Int.sub_self, Int.add_zero, Int.zero_add, Int.sub_zero, Int.neg_neg, not_true_eq_false, not_false_eq_true, Int.add_sub_cancel, ↓ite_iH, iH_t, iH_f, bH_iH, ↓bH_bind, xr_iH, ↓xr_bind, W_iH, WI_t, WI_f, g_isLength, bI_f, iH_pos, iH_neg, WI_pos, WI_neg]
  by_cases h2 : 50 ≤ s ∧ s ≤ 20000
  case neg => simp (disch := first | assumption | omega) only [↓b_hid, bH_some, ↓hid_W, W_some, I3_a, I3_s, I3_m, I3_n, I3_l, I3_lt, I3_le, I3_e, I3_dv, I3_rm, I3_mx, I3_mn, I3_ab, cI, bI_0, bI_1, rZ_b, up_same, up_row, up_col, xr_some, LQ_r, LQ_l, Int.sub_self, Int.add_zero, Int.zero_add, Int.sub_zero, Int.neg_neg, not_true_eq_false, not_false_eq_true, Int.add_sub_cancel, ↓ite_iH, iH_t, iH_f, bH_iH, ↓bH_bind, xr_iH, ↓xr_bind, W_iH, WI_t, WI_f, g_isLength, bI_t, bI_f, iH_pos, iH_neg, WI_pos, WI_neg]
  by_cases h3 : 50 ≤ a ∧ a ≤ 20000
  case neg => simp (disch := first | assumption | omega) only [↓b_hid, bH_some, ↓hid_W, W_some, I3_a, I3_s, I3_m, I3_n, I3_l, I3_lt, I3_le, I3_e, I3_dv, I3_rm, I3_mx, I3_mn, I3_ab, cI, bI_0, bI_1, rZ_b, up_same, up_row, up_col, xr_some, LQ_r, LQ_l, Int.sub_self, Int.add_zero, Int.zero_add, Int.sub_zero, Int.neg_neg, not_true_eq_false, not_false_eq_true, Int.add_sub_cancel, ↓ite_iH, iH_t, iH_f, bH_iH, ↓bH_bind, xr_iH, ↓xr_bind, W_iH, WI_t, WI_f, g_isLength, bI_t, bI_f, iH_pos, iH_neg, WI_pos, WI_neg]
  by_cases hk2 : k = 2
  · by_cases h5 : b = 0
    · by_cases h6 : c = 0
      · exact absurd ⟨h1, h2, h3, Or.inl ⟨hk2, h5, h6⟩⟩ hl
      · simp (disch := first | assumption | omega) only [↓b_hid, bH_some, ↓hid_W, W_some, I3_a, I3_s, I3_m, I3_n, I3_l, I3_lt, I3_le, I3_e, I3_dv, I3_rm, I3_mx, I3_mn, I3_ab, cI, bI_0, bI_1, rZ_b, up_same, up_row, up_col, xr_some, LQ_r, LQ_l, Int.sub_self, Int.add_zero, Int.zero_add, Int.sub_zero, Int.neg_neg, not_true_eq_false, not_false_eq_true, Int.add_sub_cancel, ↓ite_iH, iH_t, iH_f, bH_iH, ↓bH_bind, xr_iH, ↓xr_bind, W_iH, WI_t, WI_f, g_isLength, bI_t, f_X11_lengthsPossible_42, iH_pos, iH_neg, WI_pos, WI_neg]
    · simp (disch := first | assumption | omega) only [↓b_hid, bH_some, ↓hid_W, W_some, I3_a, I3_s, I3_m, I3_n, I3_l, I3_lt, I3_le, I3_e, I3_dv, I3_rm, I3_mx, I3_mn, I3_ab, cI, bI_0, bI_1, rZ_b, up_same, up_row, up_col, xr_some, LQ_r, LQ_l, Int.sub_self, Int.add_zero, Int.zero_add, Int.sub_zero, Int.neg_neg, not_true_eq_false, not_false_eq_true, Int.add_sub_cancel, ↓ite_iH, iH_t, iH_f, bH_iH, ↓bH_bind, xr_iH, ↓xr_bind, W_iH, WI_t, WI_f, g_isLength, bI_t, f_X11_lengthsPossible_42, iH_pos, iH_neg, WI_pos, WI_neg]
  · by_cases h5 : 50 ≤ b ∧ b ≤ 20000
    case neg => simp (disch := first | assumption | omega) only [↓b_hid, bH_some, ↓hid_W, W_some, I3_a, I3_s, I3_m, I3_n, I3_l, I3_lt, I3_le, I3_e, I3_dv, I3_rm, I3_mx, I3_mn, I3_ab, cI, bI_0, bI_1, rZ_b, up_same, up_row, up_col, xr_some, LQ_r, LQ_l, Int.sub_self, Int.add_zero, Int.zero_add, Int.sub_zero, Int.neg_neg, not_true_eq_false, not_false_eq_true, Int.add_sub_cancel, ↓ite_iH, iH_t, iH_f, bH_iH, ↓bH_bind, xr_iH, ↓xr_bind, W_iH, WI_t, WI_f, g_isLength, bI_t, bI_f, iH_pos, iH_neg, WI_pos, WI_neg]
    by_cases h6 : 50 ≤ c ∧ c ≤ 20000
    case neg => simp (disch := first | assumption | omega) only [↓b_hid, bH_some, ↓hid_W, W_some, I3_a, I3_s, I3_m, I3_n, I3_l, I3_lt, I3_le, I3_e, I3_dv, I3_rm, I3_mx, I3_mn, I3_ab, cI, bI_0, bI_1, rZ_b, up_same, up_row, up_col, xr_some, LQ_r, LQ_l, Int.sub_self, Int.add_zero, Int.zero_add, Int.sub_zero, Int.neg_neg, not_true_eq_false, not_false_eq_true, Int.add_sub_cancel, ↓ite_iH, iH_t, iH_f, bH_iH, ↓bH_bind, xr_iH, ↓xr_bind, W_iH, WI_t, WI_f, g_isLength, bI_t, bI_f, iH_pos, iH_neg, WI_pos, WI_neg]
    by_cases h7 : b = c
    · simp (disch := first | assumption | omega) only [↓b_hid, bH_some, ↓hid_W, W_some, I3_a, I3_s, I3_m, I3_n, I3_l, I3_lt, I3_le, I3_e, I3_dv, I3_rm, I3_mx, I3_mn, I3_ab, cI, bI_0, bI_1, rZ_b, up_same, up_row, up_col, xr_some, LQ_r, LQ_l, Int.sub_self, Int.add_zero, Int.zero_add, Int.sub_zero, Int.neg_neg, not_true_eq_false, not_false_eq_true, Int.add_sub_cancel, ↓ite_iH, iH_t, iH_f, bH_iH, ↓bH_bind, xr_iH, ↓xr_bind, W_iH, WI_t, WI_f, g_isLength, bI_t, iH_pos, iH_neg, WI_pos, WI_neg]
    · exact absurd ⟨h1, h2, h3, Or.inr ⟨hk2, h5, h6, h7⟩⟩ hl
end
section
variable {l0 l1 : Nat} {x2 x3 x4 x5 x6 x7 x8 : Int32} {μ : MS}
end
-- one more
theorem addP_o {σ : Int → Int} {k b o r h s a x y j : Int} (h3 : j ≠ 3) (hj : ¬(4 + 9 * σ 3 ≤ j ∧ j < 13 + 9 * σ 3)) : addP σ k b o r h s a x y j = σ j := by
  unfold addP
  rw [if_neg h3, if_neg (by omega), if_neg (by omega), if_neg (by omega), if_neg (by omega), if_neg (by omega), if_neg (by omega), if_neg (by omega), if_neg (by omega), if_neg (by omega)]
theorem addP_3 {σ : Int → Int} {k b o r h s a x y : Int} : addP σ k b o r h s a x y 3 = σ 3 + 1 := by unfold addP; rw [if_pos rfl]
theorem addP_n {σ : Int → Int} {k b o r h s a x y : Int} (h0 : 0 ≤ σ 3) : (addP σ k b o r h s a x y (4 + 9 * σ 3 + 0) = k ∧ addP σ k b o r h s a x y (4 + 9 * σ 3 + 1) = h ∧ addP σ k b o r h s a x y (4 + 9 * σ 3 + 2) = s ∧ addP σ k b o r h s a x y (4 + 9 * σ 3 + 3) = a ∧ addP σ k b o r h s a x y (4 + 9 * σ 3 + 4) = x ∧ addP σ k b o r h s a x y (4 + 9 * σ 3 + 5) = y ∧ addP σ k b o r h s a x y (4 + 9 * σ 3 + 6) = b ∧ addP σ k b o r h s a x y (4 + 9 * σ 3 + 7) = o ∧ addP σ k b o r h s a x y (4 + 9 * σ 3 + 8) = r) := by
  refine ⟨?_, ?_, ?_, ?_, ?_, ?_, ?_, ?_, ?_⟩ <;> unfold addP <;> simp (disch := omega) only [if_neg, if_pos, Int.add_zero, if_true]
theorem f9 {f : Int} (h0 : 0 ≤ f) (h1 : f < 9) : f = 0 ∨ f = 1 ∨ f = 2 ∨ f = 3 ∨ f = 4 ∨ f = 5 ∨ f = 6 ∨ f = 7 ∨ f = 8 := by omega
theorem V_addP {σ : Int → Int} {k b o r h s a x y : Int} (hV : V σ) (h6 : σ 3 < 6) (hk : 0 ≤ k ∧ k ≤ 2) (hb : 1 ≤ b ∧ b ≤ 16) (ho : 0 ≤ o ∧ o ≤ 1) (hr : 0 ≤ r ∧ r ≤ 2) (hh : 50 ≤ h ∧ h ≤ 20000) (hs : 50 ≤ s ∧ s ≤ 20000) (ha : 50 ≤ a ∧ a ≤ 20000) (hxy : k = 2 ∧ x = 0 ∧ y = 0 ∨ k ≠ 2 ∧ (50 ≤ x ∧ x ≤ 20000) ∧ (50 ≤ y ∧ y ≤ 20000)) : V (addP σ k b o r h s a x y) := by
  obtain ⟨v0, v1, v2, v3, v58, vp, vb, vt⟩ := hV
  have O : ∀ j, j ≠ 3 → ¬(4 + 9 * σ 3 ≤ j ∧ j < 13 + 9 * σ 3) → addP σ k b o r h s a x y j = σ j := fun j h1 h2 => addP_o h1 h2
  obtain ⟨n0, n1, n2, n3, n4, n5, n6, n7, n8⟩ := addP_n (k := k) (b := b) (o := o) (r := r) (h := h) (s := s) (a := a) (x := x) (y := y) v3.1
  unfold V
  rw [addP_3, O 0 (by decide) (by omega), O 1 (by decide) (by omega), O 2 (by decide) (by omega), O 58 (by decide) (by omega)]
  refine ⟨v0, v1, v2, by omega, v58, fun q hq => ?_, fun i i0 i1 => ?_, fun t ht => ?_⟩
  · by_cases hqe : (q : Int) = σ 3
    · unfold PV
      simp only [hqe]
      rw [n0, n1, n2, n3, n4, n5, n6, n7, n8]
      exact ⟨hk, hh, hs, ha, hxy, hb, ho, hr⟩
    · have h1 := vp q (by omega)
      exact PV_c (fun j j0 j1 => (O _ (by omega) (by omega)).symm) h1
  · rw [O (59 + 2 * i) (by omega) (by omega), O (60 + 2 * i) (by omega) (by omega)]
    have := vb i i0 i1; omega
  · rw [O (83 + t) (by omega) (by omega)]
    refine ⟨(vt t ht).1, fun i i0 i1 => ?_⟩
    rw [O (86 + 200 * t + i) (by omega) (by omega)]
    exact (vt t ht).2 i i0 i1
theorem addB_o {σ : Int → Int} {x y j : Int} (h : j ≠ 58) (h1 : j ≠ 59 + 2 * σ 58) (h2 : j ≠ 60 + 2 * σ 58) : addB σ x y j = σ j := by unfold addB; rw [if_neg h, if_neg h1, if_neg h2]
theorem addB_n {σ : Int → Int} {x y : Int} (h0 : 0 ≤ σ 58) : addB σ x y 58 = σ 58 + 1 ∧ addB σ x y (59 + 2 * σ 58) = x ∧ addB σ x y (60 + 2 * σ 58) = y := by
  unfold addB
  refine ⟨if_pos rfl, ?_, ?_⟩
  · rw [if_neg (by omega), if_pos rfl]
  · rw [if_neg (by omega), if_neg (by omega), if_pos rfl]
theorem V_addB {σ : Int → Int} {x y : Int} (hV : V σ) (h12 : σ 58 < 12) (hx : 0 ≤ x ∧ x < σ 3) (hy : 0 ≤ y ∧ y < 65536) : V (addB σ x y) := by
  obtain ⟨v0, v1, v2, v3, v58, vp, vb, vt⟩ := hV
  obtain ⟨n0, n1, n2⟩ := addB_n (x := x) (y := y) v58.1
  have O : ∀ j, j ≠ 58 → j ≠ 59 + 2 * σ 58 → j ≠ 60 + 2 * σ 58 → addB σ x y j = σ j := fun j h h1 h2 => addB_o h h1 h2
  unfold V
  rw [n0, O 0 (by decide) (by omega) (by omega), O 1 (by decide) (by omega) (by omega), O 2 (by decide) (by omega) (by omega), O 3 (by decide) (by omega) (by omega)]
  refine ⟨v0, v1, v2, v3, by omega, fun q hq => ?_, fun i i0 i1 => ?_, fun t ht => ?_⟩
  · exact PV_c (fun j j0 j1 => (O _ (by omega) (by omega) (by omega)).symm) (vp q hq)
  · by_cases hi : i = σ 58
    · rw [hi, n1, n2]; omega
    · rw [O (59 + 2 * i) (by omega) (by omega) (by omega), O (60 + 2 * i) (by omega) (by omega) (by omega)]
      exact vb i i0 (by omega)
  · rw [O (83 + t) (by omega) (by omega) (by omega)]
    refine ⟨(vt t ht).1, fun i i0 i1 => ?_⟩
    rw [O (86 + 200 * t + i) (by omega) (by omega) (by omega)]
    exact (vt t ht).2 i i0 i1
theorem Tb_addP {z z' : Nat → Int → Int} {t : Nat} {τ : Int → Int} {k b o r h s a x y : Int} (h3 : 0 ≤ τ 3 ∧ τ 3 < 6) (h58 : τ 58 ≤ 12) (hT : Tb z t τ) (e1 : z' t 1 = τ 3 + 1) (e4 : z' t 4 = z t 4) (e2 : z' (t + 2) = z (t + 2)) (e3 : z' (t + 3) = z (t + 3)) (ep : ∀ q : Nat, q < (τ 3).toNat → z' (t + 4 + q) = z (t + 4 + q)) (en : z' (t + 4 + (τ 3).toNat) 0 = k ∧ z' (t + 4 + (τ 3).toNat) 1 = h ∧ z' (t + 4 + (τ 3).toNat) 2 = s ∧ z' (t + 4 + (τ 3).toNat) 3 = a ∧ z' (t + 4 + (τ 3).toNat) 4 = x ∧ z' (t + 4 + (τ 3).toNat) 5 = y ∧ z' (t + 4 + (τ 3).toNat) 6 = b ∧ z' (t + 4 + (τ 3).toNat) 7 = o ∧ z' (t + 4 + (τ 3).toNat) 8 = r) : Tb z' t (addP τ k b o r h s a x y) := by
  obtain ⟨t1, t2, t3, t4⟩ := hT
  have O : ∀ j, j ≠ 3 → ¬(4 + 9 * τ 3 ≤ j ∧ j < 13 + 9 * τ 3) → addP τ k b o r h s a x y j = τ j := fun j h1 h2 => addP_o h1 h2
  obtain ⟨n0, n1, n2, n3, n4, n5, n6, n7, n8⟩ := addP_n (k := k) (b := b) (o := o) (r := r) (h := h) (s := s) (a := a) (x := x) (y := y) h3.1
  obtain ⟨m0, m1, m2, m3, m4, m5, m6, m7, m8⟩ := en
  refine ⟨by rw [addP_3]; exact e1, by rw [O 58 (by decide) (by omega), e4]; exact t2, fun q hq f f0 f1 => ?_, fun i i0 i1 => ?_⟩
  · rw [addP_3] at hq
    by_cases hqe : (q : Int) = τ 3
    · have hq2 : (τ 3).toNat = q := by omega
      rw [hq2] at m0 m1 m2 m3 m4 m5 m6 m7 m8
      rw [hqe]
      rcases f9 f0 f1 with rfl | rfl | rfl | rfl | rfl | rfl | rfl | rfl | rfl
      · rw [m0, n0]
      · rw [m1, n1]
      · rw [m2, n2]
      · rw [m3, n3]
      · rw [m4, n4]
      · rw [m5, n5]
      · rw [m6, n6]
      · rw [m7, n7]
      · rw [m8, n8]
    · rw [ep q (by omega), O _ (by omega) (by omega)]
      exact t3 q (by omega) f f0 f1
  · rw [O 58 (by decide) (by omega)] at i1
    rw [e2, e3, O (59 + 2 * i) (by omega) (by omega), O (60 + 2 * i) (by omega) (by omega)]
    exact t4 i i0 i1
theorem Tb_addB {z z' : Nat → Int → Int} {t : Nat} {τ : Int → Int} {x y : Int} (h3 : 0 ≤ τ 3 ∧ τ 3 ≤ 6) (h58 : 0 ≤ τ 58) (hT : Tb z t τ) (e1 : z' t 1 = z t 1) (e4 : z' t 4 = τ 58 + 1) (e2 : ∀ i, i ≠ τ 58 → z' (t + 2) i = z (t + 2) i) (e3 : ∀ i, i ≠ τ 58 → z' (t + 3) i = z (t + 3) i) (ex : z' (t + 2) (τ 58) = x) (ey : z' (t + 3) (τ 58) = y) (ep : ∀ q : Nat, q < 6 → z' (t + 4 + q) = z (t + 4 + q)) : Tb z' t (addB τ x y) := by
  obtain ⟨t1, t2, t3, t4⟩ := hT
  have O : ∀ j, j ≠ 58 → j ≠ 59 + 2 * τ 58 → j ≠ 60 + 2 * τ 58 → addB τ x y j = τ j := fun j h h1 h2 => addB_o h h1 h2
  obtain ⟨n0, n1, n2⟩ := addB_n (x := x) (y := y) h58
  refine ⟨by rw [O 3 (by decide) (by omega) (by omega), e1]; exact t1, by rw [n0]; exact e4, fun q hq f f0 f1 => ?_, fun i i0 i1 => ?_⟩
  · rw [O 3 (by decide) (by omega) (by omega)] at hq
    rw [ep q (by omega), O _ (by omega) (by omega) (by omega)]
    exact t3 q hq f f0 f1
  · rw [n0] at i1
    by_cases hi : i = τ 58
    · rw [hi, ex, ey, n1, n2]; exact ⟨rfl, rfl⟩
    · rw [e2 i hi, e3 i hi, O (59 + 2 * i) (by omega) (by omega) (by omega), O (60 + 2 * i) (by omega) (by omega) (by omega)]
      exact t4 i i0 (by omega)
