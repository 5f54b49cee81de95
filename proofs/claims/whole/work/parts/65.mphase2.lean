/-! The model: the search, over its rows. -/
section
variable {p : Nat → Nat} {z l : Nat → Int → Int}
theorem sI_201 {i v : Int} (h0 : 0 ≤ i) (h1 : i < 2720) (hv : v = 0 ∨ v = 1) : sI (M p z l) 17 201 (I3 i) (I3 v) = some (M p (up z 201 i v) l) := sI_M rfl (by decide) h0 h1 (by
  rcases hv with rfl | rfl <;> decide)
theorem m_rz {n tol i : Int} {d : Int → Int} (hE : Ed z n d tol) (h0 : 0 ≤ i) (h1 : i < n) : z 195 i = d i := hE.1.2 i h0 h1
theorem m_dead {k o b : Int} {μ : MS} : f_X12_dead (I3 k) (I3 o) (I3 b) μ = some (I3 (80 * k + 2 * o + b), μ) := by
  apply W_eq; unfold f_X12_dead; simp (disch := first | assumption | omega) only [↓b_hid, bH_some, ↓hid_W, ↓W_ite, WI_t, WI_f, W_some, I3_a, I3_s, I3_m, I3_n, I3_l, I3_lt, I3_le, I3_e, I3_dv, I3_rm, I3_mx, I3_mn, I3_ab, cI, bI_0, bI_1, rZ_b, up_same, up_row, up_col, xr_some, LQ_r, LQ_l, Int.sub_self, Int.add_zero, Int.zero_add, Int.sub_zero, Int.neg_neg, not_true_eq_false, not_false_eq_true, Int.add_sub_cancel]
theorem m_goesOn {q s m n tol k o la b : Int} {kn : Nat} {d e f : Int → Int} (hq : 0 ≤ q) (hq' : q < 6) (hf : Rw z q f) (hP : PV f) (hE : Ed z n d tol) (he : ∀ i, e i = d (s + i)) (hs : 0 ≤ s) (hsm : s + m ≤ n) (hm : 3 ≤ m) (hk : k = kn) (hk16 : kn ≤ 16) (hb : b = 0 ∨ b = 1) (hla : kn ≠ 0 → la = o % 2 ∧ 2 ≤ o ∧ o ≤ m) (hg : kn = 0 ∨ o + 1 < m ∨ o + 1 = m ∧ la ≠ b) : WP (f_X12_goesOn 189 (I3 q) (I3 s) (I3 k) (I3 o) (I3 la) (I3 b) (M p z l)) (fun r => ∃ v, r = (I3 v, M p z l) ∧ (Ed1 f e m tol kn o b v ∧ 2 ≤ v ∧ v ≤ m + 2 ∨ v = -1 ∧ ∀ q', ¬Ed1 f e m tol kn o b q')) := by
  obtain ⟨p0, p1, p2, p3, p4, p5, p6, p7⟩ := hP
  have h2 := hf 2 (by omega) (by omega)
  have h3 := hf 3 (by omega) (by omega)
  have hn := hE.2.1
  unfold f_X12_goesOn
  by_cases hk0 : kn = 0
  · have hkk : k = 0 := by omega
    have r1 := m_rd (p := p) (l := l) hE (show 0 ≤ s + 1 by omega) (by omega)
    have r2 := m_rd (p := p) (l := l) hE (show 0 ≤ s + 2 by omega) (by omega)
    have x1 := m_mat (p := p) (l := l) hE (show 0 ≤ s + 1 by omega) (by omega) (show 0 ≤ f 2 + f 3 by omega) (by omega)
    have x2 := m_mat (p := p) (l := l) hE (show 0 ≤ s + 1 by omega) (by omega) (show 0 ≤ f 2 by omega) (by omega)
    have x3 := m_mat (p := p) (l := l) hE (show 0 ≤ s + 2 by omega) (by omega) (show 0 ≤ f 3 by omega) (by omega)
    have e1 := he 1
    have e2 := he 2
    have E : ∀ b q', Ed1 f e m tol kn o b q' = (if b = 0 then mt (e 1) (f 2 + f 3) tol ∧ q' = 2 else (mt (e 1) (f 2) tol ∧ sgl f e m tol 2) ∧ q' = 3) := fun b q' => by unfold Ed1; rw [if_pos hk0]
    rcases hb with rfl | rfl
    · simp (disch := first | assumption | omega) only [↓b_hid, bH_some, ↓hid_W, ↓W_ite, WI_t, WI_f, W_some, I3_a, I3_s, I3_m, I3_n, I3_l, I3_lt, I3_le, I3_e, I3_dv, I3_rm, I3_mx, I3_mn, I3_ab, cI, bI_0, bI_1, rZ_b, up_same, up_row, up_col, xr_some, LQ_r, LQ_l, Int.sub_self, Int.add_zero, Int.zero_add, Int.sub_zero, Int.neg_neg, not_true_eq_false, not_false_eq_true, Int.add_sub_cancel, gI_189, pI_189, iO_189, gR_189_0, aI_190, sI_190, gR_189_1, aI_191, sI_191, gR_189_3, aI_192, gR_189_10, aI_193, sI_193, gR_189_11, aI_194, sI_194, gR_189_13, aI_195, sI_195, gR_189_15, aI_196, sI_196, gR_189_17, aI_197, sI_197, gR_189_18, aI_198, sI_198, gR_189_19, aI_199, sI_199, gR_189_20, aI_200, sI_200, gR_189_23, aI_201, gR_189_24, aI_202, sI_202, gR_189_25, aI_203, sI_203, gR_189_29, aI_204, sI_204, gR_189_32, aI_205, sI_205, gR_189_35, aI_206, sI_206, pZ_189, gL_189, pL_189, m_at, h2, h3, r1, x1, WI_pos, WI_neg]
      refine WI_i (fun h => ?_) (fun h => ?_)
      · simp (disch := first | assumption | omega) only [↓b_hid, bH_some, ↓hid_W, ↓W_ite, WI_t, WI_f, W_some, I3_a, I3_s, I3_m, I3_n, I3_l, I3_lt, I3_le, I3_e, I3_dv, I3_rm, I3_mx, I3_mn, I3_ab, cI, bI_0, bI_1, rZ_b, up_same, up_row, up_col, xr_some, LQ_r, LQ_l, Int.sub_self, Int.add_zero, Int.zero_add, Int.sub_zero, Int.neg_neg, not_true_eq_false, not_false_eq_true, Int.add_sub_cancel]
        refine ⟨-1, rfl, Or.inr ⟨rfl, fun q' hx => ?_⟩⟩
        rw [E, if_pos rfl, e1] at hx; exact h hx.1
      · simp (disch := first | assumption | omega) only [↓b_hid, bH_some, ↓hid_W, ↓W_ite, WI_t, WI_f, W_some, I3_a, I3_s, I3_m, I3_n, I3_l, I3_lt, I3_le, I3_e, I3_dv, I3_rm, I3_mx, I3_mn, I3_ab, cI, bI_0, bI_1, rZ_b, up_same, up_row, up_col, xr_some, LQ_r, LQ_l, Int.sub_self, Int.add_zero, Int.zero_add, Int.sub_zero, Int.neg_neg, not_true_eq_false, not_false_eq_true, Int.add_sub_cancel]
        refine ⟨2, rfl, Or.inl ⟨?_, by omega, by omega⟩⟩
        rw [E, if_pos rfl, e1]; exact ⟨Classical.byContradiction h, rfl⟩
    · simp (disch := first | assumption | omega) only [↓b_hid, bH_some, ↓hid_W, ↓W_ite, WI_t, WI_f, W_some, I3_a, I3_s, I3_m, I3_n, I3_l, I3_lt, I3_le, I3_e, I3_dv, I3_rm, I3_mx, I3_mn, I3_ab, cI, bI_0, bI_1, rZ_b, up_same, up_row, up_col, xr_some, LQ_r, LQ_l, Int.sub_self, Int.add_zero, Int.zero_add, Int.sub_zero, Int.neg_neg, not_true_eq_false, not_false_eq_true, Int.add_sub_cancel, gI_189, pI_189, iO_189, gR_189_0, aI_190, sI_190, gR_189_1, aI_191, sI_191, gR_189_3, aI_192, gR_189_10, aI_193, sI_193, gR_189_11, aI_194, sI_194, gR_189_13, aI_195, sI_195, gR_189_15, aI_196, sI_196, gR_189_17, aI_197, sI_197, gR_189_18, aI_198, sI_198, gR_189_19, aI_199, sI_199, gR_189_20, aI_200, sI_200, gR_189_23, aI_201, gR_189_24, aI_202, sI_202, gR_189_25, aI_203, sI_203, gR_189_29, aI_204, sI_204, gR_189_32, aI_205, sI_205, gR_189_35, aI_206, sI_206, pZ_189, gL_189, pL_189, m_at, h2, h3, r1, x2, WI_pos, WI_neg]
      refine WI_i (fun h => ?_) (fun h => ?_)
      · simp (disch := first | assumption | omega) only [↓b_hid, bH_some, ↓hid_W, ↓W_ite, WI_t, WI_f, W_some, I3_a, I3_s, I3_m, I3_n, I3_l, I3_lt, I3_le, I3_e, I3_dv, I3_rm, I3_mx, I3_mn, I3_ab, cI, bI_0, bI_1, rZ_b, up_same, up_row, up_col, xr_some, LQ_r, LQ_l, Int.sub_self, Int.add_zero, Int.zero_add, Int.sub_zero, Int.neg_neg, not_true_eq_false, not_false_eq_true, Int.add_sub_cancel]
        refine ⟨-1, rfl, Or.inr ⟨rfl, fun q' hx => ?_⟩⟩
        rw [E, if_neg (by decide), e1] at hx; exact h hx.1.1
      · have z2 := m_rz hE (show 0 ≤ s + 2 by omega) (by omega)
        simp (disch := first | assumption | omega) only [↓b_hid, bH_some, ↓hid_W, ↓W_ite, WI_t, WI_f, W_some, I3_a, I3_s, I3_m, I3_n, I3_l, I3_lt, I3_le, I3_e, I3_dv, I3_rm, I3_mx, I3_mn, I3_ab, cI, bI_0, bI_1, rZ_b, up_same, up_row, up_col, xr_some, LQ_r, LQ_l, Int.sub_self, Int.add_zero, Int.zero_add, Int.sub_zero, Int.neg_neg, not_true_eq_false, not_false_eq_true, Int.add_sub_cancel, gI_189, pI_189, iO_189, gR_189_0, aI_190, sI_190, gR_189_1, aI_191, sI_191, gR_189_3, aI_192, gR_189_10, aI_193, sI_193, gR_189_11, aI_194, sI_194, gR_189_13, aI_195, sI_195, gR_189_15, aI_196, sI_196, gR_189_17, aI_197, sI_197, gR_189_18, aI_198, sI_198, gR_189_19, aI_199, sI_199, gR_189_20, aI_200, sI_200, gR_189_23, aI_201, gR_189_24, aI_202, sI_202, gR_189_25, aI_203, sI_203, gR_189_29, aI_204, sI_204, gR_189_32, aI_205, sI_205, gR_189_35, aI_206, sI_206, pZ_189, gL_189, pL_189, z2, x3]
        refine WI_i (fun h' => ?_) (fun h' => ?_)
        · simp (disch := first | assumption | omega) only [↓b_hid, bH_some, ↓hid_W, ↓W_ite, WI_t, WI_f, W_some, I3_a, I3_s, I3_m, I3_n, I3_l, I3_lt, I3_le, I3_e, I3_dv, I3_rm, I3_mx, I3_mn, I3_ab, cI, bI_0, bI_1, rZ_b, up_same, up_row, up_col, xr_some, LQ_r, LQ_l, Int.sub_self, Int.add_zero, Int.zero_add, Int.sub_zero, Int.neg_neg, not_true_eq_false, not_false_eq_true, Int.add_sub_cancel]
          refine ⟨-1, rfl, Or.inr ⟨rfl, fun q' hx => ?_⟩⟩
          rw [E, if_neg (by decide)] at hx
          have := hx.1.2.2.2; rw [e2] at this; exact h' this
        · simp (disch := first | assumption | omega) only [↓b_hid, bH_some, ↓hid_W, ↓W_ite, WI_t, WI_f, W_some, I3_a, I3_s, I3_m, I3_n, I3_l, I3_lt, I3_le, I3_e, I3_dv, I3_rm, I3_mx, I3_mn, I3_ab, cI, bI_0, bI_1, rZ_b, up_same, up_row, up_col, xr_some, LQ_r, LQ_l, Int.sub_self, Int.add_zero, Int.zero_add, Int.sub_zero, Int.neg_neg, not_true_eq_false, not_false_eq_true, Int.add_sub_cancel]
          refine ⟨3, rfl, Or.inl ⟨?_, by omega, by omega⟩⟩
          rw [E, if_neg (by decide), e1]
          exact ⟨⟨Classical.byContradiction h, by omega, by omega, by rw [e2]; exact Classical.byContradiction h'⟩, rfl⟩
  · obtain ⟨l1, l2, l3⟩ := hla hk0
    have hg : o + 1 < m ∨ o + 1 = m ∧ la ≠ b := by
      rcases hg with h | h
      · exact absurd h hk0
      · exact h
    have r1 := m_rd (p := p) (l := l) hE (show 0 ≤ s + o by omega) (by omega)
    have x1 := m_mat (p := p) (l := l) hE (show 0 ≤ s + o by omega) (by omega) (show 0 ≤ f 3 by omega) (by omega)
    have x2 := m_mat (p := p) (l := l) hE (show 0 ≤ s + o by omega) (by omega) (show 0 ≤ 2 * f 3 by omega) (by omega)
    have e1 := he o
    have e2 := he (o + 1)
    have E : ∀ b q', Ed1 f e m tol kn o b q' = (if o % 2 = b then par f e m tol o ∧ q' = o + 2 else dbl f e m tol o ∧ q' = o + 1) := fun b q' => by unfold Ed1; rw [if_neg hk0]
    by_cases hlb : la = b
    · have ho1 : o + 1 < m := by
        rcases hg with h | h
        · exact h
        · exact absurd hlb h.2
      have r2 := m_rd (p := p) (l := l) hE (show 0 ≤ s + o + 1 by omega) (by omega)
      have x3 := m_mat (p := p) (l := l) hE (show 0 ≤ s + o + 1 by omega) (by omega) (show 0 ≤ f 3 by omega) (by omega)
      rw [show s + (o + 1) = s + o + 1 by omega] at e2
      simp (disch := first | assumption | omega) only [↓b_hid, bH_some, ↓hid_W, ↓W_ite, WI_t, WI_f, W_some, I3_a, I3_s, I3_m, I3_n, I3_l, I3_lt, I3_le, I3_e, I3_dv, I3_rm, I3_mx, I3_mn, I3_ab, cI, bI_0, bI_1, rZ_b, up_same, up_row, up_col, xr_some, LQ_r, LQ_l, Int.sub_self, Int.add_zero, Int.zero_add, Int.sub_zero, Int.neg_neg, not_true_eq_false, not_false_eq_true, Int.add_sub_cancel, gI_189, pI_189, iO_189, gR_189_0, aI_190, sI_190, gR_189_1, aI_191, sI_191, gR_189_3, aI_192, gR_189_10, aI_193, sI_193, gR_189_11, aI_194, sI_194, gR_189_13, aI_195, sI_195, gR_189_15, aI_196, sI_196, gR_189_17, aI_197, sI_197, gR_189_18, aI_198, sI_198, gR_189_19, aI_199, sI_199, gR_189_20, aI_200, sI_200, gR_189_23, aI_201, gR_189_24, aI_202, sI_202, gR_189_25, aI_203, sI_203, gR_189_29, aI_204, sI_204, gR_189_32, aI_205, sI_205, gR_189_35, aI_206, sI_206, pZ_189, gL_189, pL_189, m_at, h2, h3, r1, x1, WI_pos, WI_neg]
      refine WI_i (fun h => ?_) (fun h => ?_)
      · simp (disch := first | assumption | omega) only [↓b_hid, bH_some, ↓hid_W, ↓W_ite, WI_t, WI_f, W_some, I3_a, I3_s, I3_m, I3_n, I3_l, I3_lt, I3_le, I3_e, I3_dv, I3_rm, I3_mx, I3_mn, I3_ab, cI, bI_0, bI_1, rZ_b, up_same, up_row, up_col, xr_some, LQ_r, LQ_l, Int.sub_self, Int.add_zero, Int.zero_add, Int.sub_zero, Int.neg_neg, not_true_eq_false, not_false_eq_true, Int.add_sub_cancel]
        refine ⟨-1, rfl, Or.inr ⟨rfl, fun q' hx => ?_⟩⟩
        rw [E, if_pos (by omega)] at hx
        have := hx.1.1.2.2; rw [e1] at this; exact h this
      · have z2 := m_rz hE (show 0 ≤ s + o + 1 by omega) (by omega)
        simp (disch := first | assumption | omega) only [↓b_hid, bH_some, ↓hid_W, ↓W_ite, WI_t, WI_f, W_some, I3_a, I3_s, I3_m, I3_n, I3_l, I3_lt, I3_le, I3_e, I3_dv, I3_rm, I3_mx, I3_mn, I3_ab, cI, bI_0, bI_1, rZ_b, up_same, up_row, up_col, xr_some, LQ_r, LQ_l, Int.sub_self, Int.add_zero, Int.zero_add, Int.sub_zero, Int.neg_neg, not_true_eq_false, not_false_eq_true, Int.add_sub_cancel, gI_189, pI_189, iO_189, gR_189_0, aI_190, sI_190, gR_189_1, aI_191, sI_191, gR_189_3, aI_192, gR_189_10, aI_193, sI_193, gR_189_11, aI_194, sI_194, gR_189_13, aI_195, sI_195, gR_189_15, aI_196, sI_196, gR_189_17, aI_197, sI_197, gR_189_18, aI_198, sI_198, gR_189_19, aI_199, sI_199, gR_189_20, aI_200, sI_200, gR_189_23, aI_201, gR_189_24, aI_202, sI_202, gR_189_25, aI_203, sI_203, gR_189_29, aI_204, sI_204, gR_189_32, aI_205, sI_205, gR_189_35, aI_206, sI_206, pZ_189, gL_189, pL_189, z2, x3]
        refine WI_i (fun h' => ?_) (fun h' => ?_)
        · simp (disch := first | assumption | omega) only [↓b_hid, bH_some, ↓hid_W, ↓W_ite, WI_t, WI_f, W_some, I3_a, I3_s, I3_m, I3_n, I3_l, I3_lt, I3_le, I3_e, I3_dv, I3_rm, I3_mx, I3_mn, I3_ab, cI, bI_0, bI_1, rZ_b, up_same, up_row, up_col, xr_some, LQ_r, LQ_l, Int.sub_self, Int.add_zero, Int.zero_add, Int.sub_zero, Int.neg_neg, not_true_eq_false, not_false_eq_true, Int.add_sub_cancel]
          refine ⟨-1, rfl, Or.inr ⟨rfl, fun q' hx => ?_⟩⟩
          rw [E, if_pos (by omega)] at hx
          have := hx.1.2.2.2; rw [e2] at this; exact h' this
        · simp (disch := first | assumption | omega) only [↓b_hid, bH_some, ↓hid_W, ↓W_ite, WI_t, WI_f, W_some, I3_a, I3_s, I3_m, I3_n, I3_l, I3_lt, I3_le, I3_e, I3_dv, I3_rm, I3_mx, I3_mn, I3_ab, cI, bI_0, bI_1, rZ_b, up_same, up_row, up_col, xr_some, LQ_r, LQ_l, Int.sub_self, Int.add_zero, Int.zero_add, Int.sub_zero, Int.neg_neg, not_true_eq_false, not_false_eq_true, Int.add_sub_cancel]
          refine ⟨o + 2, rfl, Or.inl ⟨?_, by omega, by omega⟩⟩
          rw [E, if_pos (by omega)]
          exact ⟨⟨⟨l2, by omega, by rw [e1]; exact Classical.byContradiction h⟩, by omega, by omega, by rw [e2]; exact Classical.byContradiction h'⟩, rfl⟩
    · simp (disch := first | assumption | omega) only [↓b_hid, bH_some, ↓hid_W, ↓W_ite, WI_t, WI_f, W_some, I3_a, I3_s, I3_m, I3_n, I3_l, I3_lt, I3_le, I3_e, I3_dv, I3_rm, I3_mx, I3_mn, I3_ab, cI, bI_0, bI_1, rZ_b, up_same, up_row, up_col, xr_some, LQ_r, LQ_l, Int.sub_self, Int.add_zero, Int.zero_add, Int.sub_zero, Int.neg_neg, not_true_eq_false, not_false_eq_true, Int.add_sub_cancel, gI_189, pI_189, iO_189, gR_189_0, aI_190, sI_190, gR_189_1, aI_191, sI_191, gR_189_3, aI_192, gR_189_10, aI_193, sI_193, gR_189_11, aI_194, sI_194, gR_189_13, aI_195, sI_195, gR_189_15, aI_196, sI_196, gR_189_17, aI_197, sI_197, gR_189_18, aI_198, sI_198, gR_189_19, aI_199, sI_199, gR_189_20, aI_200, sI_200, gR_189_23, aI_201, gR_189_24, aI_202, sI_202, gR_189_25, aI_203, sI_203, gR_189_29, aI_204, sI_204, gR_189_32, aI_205, sI_205, gR_189_35, aI_206, sI_206, pZ_189, gL_189, pL_189, m_at, h2, h3, r1, x2, WI_pos, WI_neg]
      refine WI_i (fun h => ?_) (fun h => ?_)
      · simp (disch := first | assumption | omega) only [↓b_hid, bH_some, ↓hid_W, ↓W_ite, WI_t, WI_f, W_some, I3_a, I3_s, I3_m, I3_n, I3_l, I3_lt, I3_le, I3_e, I3_dv, I3_rm, I3_mx, I3_mn, I3_ab, cI, bI_0, bI_1, rZ_b, up_same, up_row, up_col, xr_some, LQ_r, LQ_l, Int.sub_self, Int.add_zero, Int.zero_add, Int.sub_zero, Int.neg_neg, not_true_eq_false, not_false_eq_true, Int.add_sub_cancel]
        refine ⟨-1, rfl, Or.inr ⟨rfl, fun q' hx => ?_⟩⟩
        rw [E, if_neg (by omega)] at hx
        have := hx.1.2.2; rw [e1] at this; exact h this
      · simp (disch := first | assumption | omega) only [↓b_hid, bH_some, ↓hid_W, ↓W_ite, WI_t, WI_f, W_some, I3_a, I3_s, I3_m, I3_n, I3_l, I3_lt, I3_le, I3_e, I3_dv, I3_rm, I3_mx, I3_mn, I3_ab, cI, bI_0, bI_1, rZ_b, up_same, up_row, up_col, xr_some, LQ_r, LQ_l, Int.sub_self, Int.add_zero, Int.zero_add, Int.sub_zero, Int.neg_neg, not_true_eq_false, not_false_eq_true, Int.add_sub_cancel]
        refine ⟨o + 1, rfl, Or.inl ⟨?_, by omega, by omega⟩⟩
        rw [E, if_neg (by omega)]
        exact ⟨⟨l2, by omega, by rw [e1]; exact Classical.byContradiction h⟩, rfl⟩
theorem m_isWhole {q s m n tol o la : Int} {d e f : Int → Int} (hq : 0 ≤ q) (hq' : q < 6) (hf : Rw z q f) (hP : PV f) (hE : Ed z n d tol) (he : ∀ i, e i = d (s + i)) (hs : 0 ≤ s) (hsm : s + m ≤ n) (hm : 3 ≤ m) (hm2 : m % 2 = 1) (hla : la = o % 2) (ho : 2 ≤ o) (ho' : o ≤ m) : WP (f_X12_isWhole 189 (I3 q) (I3 s) (I3 m) (I3 o) (I3 la) (M p z l)) (fun r => ∃ v, r = (I3 v, M p z l) ∧ (v = 1 ∧ Rd f e m tol 0 o ∨ v = 0 ∧ ¬Rd f e m tol 0 o)) := by
  obtain ⟨p0, p1, p2, p3, p4, p5, p6, p7⟩ := hP
  have h3 := hf 3 (by omega) (by omega)
  have hn := hE.2.1
  have e1 := he o
  have R0 : Rd f e m tol 0 o = (o = m ∨ o = m - 1 ∧ sgl f e m tol o) := rfl
  unfold f_X12_isWhole
  by_cases hl : la = 1
  · simp (disch := first | assumption | omega) only [↓b_hid, bH_some, ↓hid_W, ↓W_ite, WI_t, WI_f, W_some, I3_a, I3_s, I3_m, I3_n, I3_l, I3_lt, I3_le, I3_e, I3_dv, I3_rm, I3_mx, I3_mn, I3_ab, cI, bI_0, bI_1, rZ_b, up_same, up_row, up_col, xr_some, LQ_r, LQ_l, Int.sub_self, Int.add_zero, Int.zero_add, Int.sub_zero, Int.neg_neg, not_true_eq_false, not_false_eq_true, Int.add_sub_cancel, WI_pos, WI_neg]
    refine WI_i (fun h => ?_) (fun h => ?_)
    · simp (disch := first | assumption | omega) only [↓b_hid, bH_some, ↓hid_W, ↓W_ite, WI_t, WI_f, W_some, I3_a, I3_s, I3_m, I3_n, I3_l, I3_lt, I3_le, I3_e, I3_dv, I3_rm, I3_mx, I3_mn, I3_ab, cI, bI_0, bI_1, rZ_b, up_same, up_row, up_col, xr_some, LQ_r, LQ_l, Int.sub_self, Int.add_zero, Int.zero_add, Int.sub_zero, Int.neg_neg, not_true_eq_false, not_false_eq_true, Int.add_sub_cancel]; exact ⟨1, rfl, Or.inl ⟨rfl, by rw [R0]; exact Or.inl h⟩⟩
    · simp (disch := first | assumption | omega) only [↓b_hid, bH_some, ↓hid_W, ↓W_ite, WI_t, WI_f, W_some, I3_a, I3_s, I3_m, I3_n, I3_l, I3_lt, I3_le, I3_e, I3_dv, I3_rm, I3_mx, I3_mn, I3_ab, cI, bI_0, bI_1, rZ_b, up_same, up_row, up_col, xr_some, LQ_r, LQ_l, Int.sub_self, Int.add_zero, Int.zero_add, Int.sub_zero, Int.neg_neg, not_true_eq_false, not_false_eq_true, Int.add_sub_cancel]
      refine ⟨0, rfl, Or.inr ⟨rfl, ?_⟩⟩
      rw [R0]; rintro (hx | hx)
      · exact h hx
      · omega
  · simp (disch := first | assumption | omega) only [↓b_hid, bH_some, ↓hid_W, ↓W_ite, WI_t, WI_f, W_some, I3_a, I3_s, I3_m, I3_n, I3_l, I3_lt, I3_le, I3_e, I3_dv, I3_rm, I3_mx, I3_mn, I3_ab, cI, bI_0, bI_1, rZ_b, up_same, up_row, up_col, xr_some, LQ_r, LQ_l, Int.sub_self, Int.add_zero, Int.zero_add, Int.sub_zero, Int.neg_neg, not_true_eq_false, not_false_eq_true, Int.add_sub_cancel, WI_pos, WI_neg]
    refine WI_i (fun h => ?_) (fun h => ?_)
    · have r1 := m_rd (p := p) (l := l) hE (show 0 ≤ s + o by omega) (by omega)
      have x1 := m_mat (p := p) (l := l) hE (show 0 ≤ s + o by omega) (by omega) (show 0 ≤ f 3 by omega) (by omega)
      simp (disch := first | assumption | omega) only [↓b_hid, bH_some, ↓hid_W, ↓W_ite, WI_t, WI_f, W_some, I3_a, I3_s, I3_m, I3_n, I3_l, I3_lt, I3_le, I3_e, I3_dv, I3_rm, I3_mx, I3_mn, I3_ab, cI, bI_0, bI_1, rZ_b, up_same, up_row, up_col, xr_some, LQ_r, LQ_l, Int.sub_self, Int.add_zero, Int.zero_add, Int.sub_zero, Int.neg_neg, not_true_eq_false, not_false_eq_true, Int.add_sub_cancel, gI_189, pI_189, iO_189, gR_189_0, aI_190, sI_190, gR_189_1, aI_191, sI_191, gR_189_3, aI_192, gR_189_10, aI_193, sI_193, gR_189_11, aI_194, sI_194, gR_189_13, aI_195, sI_195, gR_189_15, aI_196, sI_196, gR_189_17, aI_197, sI_197, gR_189_18, aI_198, sI_198, gR_189_19, aI_199, sI_199, gR_189_20, aI_200, sI_200, gR_189_23, aI_201, gR_189_24, aI_202, sI_202, gR_189_25, aI_203, sI_203, gR_189_29, aI_204, sI_204, gR_189_32, aI_205, sI_205, gR_189_35, aI_206, sI_206, pZ_189, gL_189, pL_189, m_at, r1, h3, x1]
      refine WI_i (fun h' => ?_) (fun h' => ?_)
      · simp (disch := first | assumption | omega) only [↓b_hid, bH_some, ↓hid_W, ↓W_ite, WI_t, WI_f, W_some, I3_a, I3_s, I3_m, I3_n, I3_l, I3_lt, I3_le, I3_e, I3_dv, I3_rm, I3_mx, I3_mn, I3_ab, cI, bI_0, bI_1, rZ_b, up_same, up_row, up_col, xr_some, LQ_r, LQ_l, Int.sub_self, Int.add_zero, Int.zero_add, Int.sub_zero, Int.neg_neg, not_true_eq_false, not_false_eq_true, Int.add_sub_cancel]
        refine ⟨0, rfl, Or.inr ⟨rfl, ?_⟩⟩
        rw [R0]; rintro (hx | hx)
        · omega
        · have := hx.2.2.2; rw [e1] at this; exact h' this
      · simp (disch := first | assumption | omega) only [↓b_hid, bH_some, ↓hid_W, ↓W_ite, WI_t, WI_f, W_some, I3_a, I3_s, I3_m, I3_n, I3_l, I3_lt, I3_le, I3_e, I3_dv, I3_rm, I3_mx, I3_mn, I3_ab, cI, bI_0, bI_1, rZ_b, up_same, up_row, up_col, xr_some, LQ_r, LQ_l, Int.sub_self, Int.add_zero, Int.zero_add, Int.sub_zero, Int.neg_neg, not_true_eq_false, not_false_eq_true, Int.add_sub_cancel]
        exact ⟨1, rfl, Or.inl ⟨rfl, by rw [R0]; exact Or.inr ⟨h, ho, by omega, by rw [e1]; exact Classical.byContradiction h'⟩⟩⟩
    · simp (disch := first | assumption | omega) only [↓b_hid, bH_some, ↓hid_W, ↓W_ite, WI_t, WI_f, W_some, I3_a, I3_s, I3_m, I3_n, I3_l, I3_lt, I3_le, I3_e, I3_dv, I3_rm, I3_mx, I3_mn, I3_ab, cI, bI_0, bI_1, rZ_b, up_same, up_row, up_col, xr_some, LQ_r, LQ_l, Int.sub_self, Int.add_zero, Int.zero_add, Int.sub_zero, Int.neg_neg, not_true_eq_false, not_false_eq_true, Int.add_sub_cancel]
      refine ⟨0, rfl, Or.inr ⟨rfl, ?_⟩⟩
      rw [R0]; rintro (hx | hx)
      · omega
      · exact h hx.1
/-- only the search's rows are other -/
def FrS (z z' : Nat → Int → Int) : Prop := ∀ k, k ≠ 201 → k ≠ 202 → k ≠ 203 → z' k = z k
theorem Ed_S {z z' : Nat → Int → Int} {n tol : Int} {d : Int → Int} (h : FrS z z') (hE : Ed z n d tol) : Ed z' n d tol := by
  obtain ⟨⟨a, b⟩, c⟩ := hE
  refine ⟨⟨?_, ?_⟩, ?_⟩
  · rw [h 189 (by decide) (by decide) (by decide)]; exact a
  · rw [h 195 (by decide) (by decide) (by decide)]; exact b
  · rw [h 189 (by decide) (by decide) (by decide)]; exact c
/-- one turn of the search goes to a state of less measure -/
def SI (q s m : Int) (f e : Int → Int) (tol : Int) (N : Nat) (p : Nat → Nat) (z0 l : Nat → Int → Int) (n : Nat) (st : Nat × Int32 × Int32 × Int32 × Int32 × Int32 × MS) : Prop := ∃ (z' : Nat → Int → Int), FrS z0 z' ∧ Dd f e m tol N (z' 201) ∧ ((st = (189, I3 q, I3 s, I3 m, I3 N, I3 (-1), M p z' l) ∧ n = 0 ∧ ¬ph0 f e m tol ∧ ¬ph1 f e m tol) ∨ ∃ k : Nat, st = (189, I3 q, I3 s, I3 m, I3 N, I3 k, M p z' l) ∧ Pa f e m tol N k (z' 202) (z' 203) ∧ Tp f e m tol N k (z' 202) (z' 203) ∧ n = (mt4 (z' 202) N k).toNat)
theorem m_bits {N : Nat} {ch : Int → Int} (hch : z 202 = ch) (hN : N ≤ 16) (hb : ∀ j : Nat, j < N → ch j = 0 ∨ ch j = 1) : f_X12_readsPhase_148 189 (I3 N) (M p z l) = some (I3 (bvs ch N), M p z l) := by
  have hx : ∀ k : Nat, k ≤ N → bvs ch k = bvs (fun i => if 0 ≤ i ∧ i < N then ch i else 0) k := by
    intro k
    induction k with
    | zero => intro _; rfl
    | succ k ih => intro hk; rw [bvs, bvs, ih (by omega), if_pos (by omega)]
  have hb2 : ∀ k : Nat, (fun i : Int => if 0 ≤ i ∧ i < (N : Int) then ch i else 0) k = 0 ∨ (fun i : Int => if 0 ≤ i ∧ i < (N : Int) then ch i else 0) k = 1 := by
    intro k
    show (if 0 ≤ (k : Int) ∧ (k : Int) < N then ch k else 0) = 0 ∨ (if 0 ≤ (k : Int) ∧ (k : Int) < N then ch k else 0) = 1
    split
    · exact hb k (by omega)
    · exact Or.inl rfl
  apply W_eq
  unfold f_X12_readsPhase_148 f_X12_readsPhase_154
  refine lp_W (fun m st => ∃ k : Nat, st = (189, I3 N, I3 (bvs ch k), I3 k, M p z l) ∧ k ≤ N ∧ m = N - k) (fun m st hs => ?_) ⟨0, rfl, by omega, rfl⟩
  obtain ⟨k, rfl, hk, rfl⟩ := hs
  unfold f_X12_readsPhase_154_b
  by_cases hkN : k < N
  · have hr := bvs_r (fun i : Int => if 0 ≤ i ∧ i < (N : Int) then ch i else 0) hb2 k
    rw [← hx k hk] at hr
    have hr16 := pw16 (n := k) (by omega)
    simp (disch := first | assumption | omega) only [↓b_hid, bH_some, ↓hid_W, ↓W_ite, WI_t, WI_f, W_some, I3_a, I3_s, I3_m, I3_n, I3_l, I3_lt, I3_le, I3_e, I3_dv, I3_rm, I3_mx, I3_mn, I3_ab, cI, bI_0, bI_1, rZ_b, up_same, up_row, up_col, xr_some, LQ_r, LQ_l, Int.sub_self, Int.add_zero, Int.zero_add, Int.sub_zero, Int.neg_neg, not_true_eq_false, not_false_eq_true, Int.add_sub_cancel, gI_189, pI_189, iO_189, gR_189_0, aI_190, sI_190, gR_189_1, aI_191, sI_191, gR_189_3, aI_192, gR_189_10, aI_193, sI_193, gR_189_11, aI_194, sI_194, gR_189_13, aI_195, sI_195, gR_189_15, aI_196, sI_196, gR_189_17, aI_197, sI_197, gR_189_18, aI_198, sI_198, gR_189_19, aI_199, sI_199, gR_189_20, aI_200, sI_200, gR_189_23, aI_201, gR_189_24, aI_202, sI_202, gR_189_25, aI_203, sI_203, gR_189_29, aI_204, sI_204, gR_189_32, aI_205, sI_205, gR_189_35, aI_206, sI_206, pZ_189, gL_189, pL_189, hch, WI_pos, WI_neg]
    exact ⟨_, by omega, k + 1, by rw [bvs]; rfl, by omega, rfl⟩
  · have : k = N := by omega
    subst this
    simp (disch := first | assumption | omega) only [↓b_hid, bH_some, ↓hid_W, ↓W_ite, WI_t, WI_f, W_some, I3_a, I3_s, I3_m, I3_n, I3_l, I3_lt, I3_le, I3_e, I3_dv, I3_rm, I3_mx, I3_mn, I3_ab, cI, bI_0, bI_1, rZ_b, up_same, up_row, up_col, xr_some, LQ_r, LQ_l, Int.sub_self, Int.add_zero, Int.zero_add, Int.sub_zero, Int.neg_neg, not_true_eq_false, not_false_eq_true, Int.add_sub_cancel, f_X12_readsPhase_181, WI_pos, WI_neg]
/-- the search ends with the least code, or tells that there is none -/
theorem m_search {q s m n tol : Int} {N : Nat} {d e f : Int → Int} (hq : 0 ≤ q) (hq' : q < 6) (hf : Rw z q f) (hP : PV f) (hE : Ed z n d tol) (he : ∀ i, e i = d (s + i)) (hs : 0 ≤ s) (hsm : s + m ≤ n) (hg : 3 ≤ m ∧ m ≤ 2 * f 6 + 1 ∧ mt (e 0) (f 1) tol) (hm2 : m % 2 = 1) (hN : f 6 = N) (hdd : Dd f e m tol N (z 201)) (h202 : z 202 0 = -1) (h203 : z 203 0 = 1) : WP (f_X12_readsPhase_97 189 (I3 q) (I3 s) (I3 m) (I3 N) (I3 0) (M p z l)) (fun r => ∃ v z', r = (I3 v, M p z' l) ∧ FrS z z' ∧ (v = -1 ∧ phcode f e m tol = -9 ∨ ∃ b : Int → Int, (∀ j : Nat, b j = 0 ∨ b j = 1) ∧ v = bvs b N ∧ phcode f e m tol = csum f b N)) := by
  have hP' := hP
  obtain ⟨p0, p1, p2, p3, p4, p5, p6, p7⟩ := hP'
  have hn := hE.2.1
  have hN1 : 1 ≤ N := by omega
  have hN16 : N ≤ 16 := by omega
  have hm33 : m ≤ 33 := by omega
  unfold f_X12_readsPhase_97
  refine lp_W (SI q s m f e tol N p z l) (fun n' st hst => ?_) ⟨z, fun _ _ _ _ => rfl, hdd, Or.inr ⟨0, rfl, ⟨by omega, h203, by intro j hj; omega⟩, fun _ => ⟨by rw [show ((0 : Nat) : Int) = 0 from rfl, h202]; omega, ?_, ?_⟩, rfl⟩⟩
  · obtain ⟨z', hF, hD, hst⟩ := hst
    rcases hst with ⟨rfl, rfl, hn0, hn1⟩ | ⟨k, rfl, hPa, hTp, rfl⟩
    · unfold f_X12_readsPhase_97_b
      simp (disch := first | assumption | omega) only [↓b_hid, bH_some, ↓hid_W, ↓W_ite, WI_t, WI_f, W_some, I3_a, I3_s, I3_m, I3_n, I3_l, I3_lt, I3_le, I3_e, I3_dv, I3_rm, I3_mx, I3_mn, I3_ab, cI, bI_0, bI_1, rZ_b, up_same, up_row, up_col, xr_some, LQ_r, LQ_l, Int.sub_self, Int.add_zero, Int.zero_add, Int.sub_zero, Int.neg_neg, not_true_eq_false, not_false_eq_true, Int.add_sub_cancel, f_X12_readsPhase_396, WI_pos, WI_neg]
      refine ⟨-1, z', rfl, hF, Or.inl ⟨rfl, ?_⟩⟩
      unfold phcode; rw [cif_t hg, cif_f hn0, cif_f hn1]
    · generalize hch : z' 202 = ch at *
      generalize hrn : z' 203 = rn at *
      generalize hddz : z' 201 = dd at *
      have hE' := Ed_S hF hE
      have hf' : Rw z' q f := Rw_congr (hF 190 (by decide) (by decide) (by decide)) hf
      obtain ⟨hkN, hr0, hpath⟩ := hPa
      -- the polarity that was left open
      have hla : ∃ la : Int, la = (if k = 0 then 0 else ch ((k : Int) - 1)) ∧ (la = 0 ∨ la = 1) ∧ (k ≠ 0 → la = rn k % 2 ∧ 2 ≤ rn k ∧ rn k ≤ m) := by
        refine ⟨_, rfl, ?_, ?_⟩
        · split
          · exact Or.inl rfl
          · obtain ⟨a, _⟩ := hpath (k - 1) (by omega)
            rw [show (((k - 1 : Nat)) : Int) = (k : Int) - 1 by omega] at a; exact a
        · intro hk0
          obtain ⟨_, b, _⟩ := hpath (k - 1) (by omega)
          rw [show (((k - 1 : Nat)) : Int) = (k : Int) - 1 by omega, show (k : Int) - 1 + 1 = k by omega] at b
          rw [if_neg hk0]; omega
      obtain ⟨la, hla1, hla2, hla3⟩ := hla
      have hrk : 1 ≤ rn k ∧ rn k ≤ m := by
        by_cases hk0 : k = 0
        · subst hk0; rw [show ((0 : Nat) : Int) = 0 from rfl, hr0]; omega
        · have := hla3 hk0; omega
      have hmsn := ms_nn (ch := ch) k (fun j hj => (hpath j hj).1)
      have hw := w4_pos k
      -- one level up, its state dead
      have pop : ¬(1 ≤ k ∧ Rd f e m tol (N - k) (rn k)) → (k = 0 → ¬ph0 f e m tol ∧ ¬ph1 f e m tol) → (ms ch k < mt4 ch N k) → WP (some (Sum.inl (189, I3 q, I3 s, I3 m, I3 N, I3 ((k : Int) - 1), M p (up z' 201 (80 * k + 2 * rn k + la) 1) l)) : Option ((Nat × Int32 × Int32 × Int32 × Int32 × Int32 × MS) ⊕ (Int32 × MS))) (LQ (fun r => ∃ v z', r = (I3 v, M p z' l) ∧ FrS z z' ∧ (v = -1 ∧ phcode f e m tol = -9 ∨ ∃ b : Int → Int, (∀ j : Nat, b j = 0 ∨ b j = 1) ∧ v = bvs b N ∧ phcode f e m tol = csum f b N)) (SI q s m f e tol N p z l) (mt4 ch N k).toNat) := by
        intro hnR hk00 hmes
        rw [W_some, LQ_l]
        have hFS : FrS z (up z' 201 (80 * k + 2 * rn k + la) 1) := fun c a b d => by rw [up_row a]; exact hF c a b d
        have hDn : Dd f e m tol N (up z' 201 (80 * k + 2 * rn k + la) 1 201) := by
          have := Dd_set (k := k) (o := rn k) (b := la) hD hm33 (by omega) hrk.2 (by
            by_cases hk0 : k = 0
            · exact Or.inr hk0
            · exact Or.inl (hla3 hk0).1.symm) (by omega) (fun hk1 hR => hnR ⟨hk1, hR⟩)
          have e : up z' 201 (80 * k + 2 * rn k + la) 1 201 = (fun i => if i = dix k (rn k) la then 1 else dd i) := by
            funext i; unfold up dix
            by_cases hi : i = 80 * k + 2 * rn k + la
            · rw [if_pos ⟨rfl, hi⟩, if_pos hi]
            · rw [if_neg (by omega), if_neg hi, hddz]
          rw [e]; exact this
        have e2 : up z' 201 (80 * k + 2 * rn k + la) 1 202 = ch := by rw [up_row (by decide), hch]
        have e3 : up z' 201 (80 * k + 2 * rn k + la) 1 203 = rn := by rw [up_row (by decide), hrn]
        by_cases hk0 : k = 0
        · subst hk0
          refine ⟨0, by omega, _, hFS, hDn, Or.inl ⟨rfl, rfl, (hk00 rfl).1, (hk00 rfl).2⟩⟩
        · obtain ⟨k', rfl⟩ : ∃ k', k = k' + 1 := ⟨k - 1, by omega⟩
          obtain ⟨a1, a2⟩ := Pa_pop ⟨hkN, hr0, hpath⟩ (fun hR => hnR ⟨by omega, hR⟩)
          have hms' := ms_nn (ch := ch) k' (fun j hj => (hpath j (by omega)).1)
          have hck := (hpath k' (by omega)).1
          have hwk := w4_pos k'
          have hm4 : mt4 ch N k' = ms ch (k' + 1) := by unfold mt4; rw [if_neg (by omega), ms]
          refine ⟨(mt4 ch N k').toNat, ?_, _, hFS, hDn, Or.inr ⟨k', ?_, ?_, ?_, ?_⟩⟩
          · rw [hm4]; omega
          · rw [show (((k' + 1 : Nat)) : Int) - 1 = (k' : Int) by omega]
          · rw [e2, e3]; exact a1
          · rw [e2, e3]; exact a2
          · rw [e2]
      -- the head of the turn
      have head : WP (f_X12_readsPhase_120 189 (I3 q) (I3 s) (I3 m) (I3 N) (I3 k) (I3 la) (M p z' l)) (LQ (fun r => ∃ v z', r = (I3 v, M p z' l) ∧ FrS z z' ∧ (v = -1 ∧ phcode f e m tol = -9 ∨ ∃ b : Int → Int, (∀ j : Nat, b j = 0 ∨ b j = 1) ∧ v = bvs b N ∧ phcode f e m tol = csum f b N)) (SI q s m f e tol N p z l) (mt4 ch N k).toNat) := by
        have ek1 : (k : Int) + -1 = (k : Int) - 1 := by omega
        have hrk33 : rn k ≤ 33 := by omega
        unfold f_X12_readsPhase_120
        by_cases hkN' : k = N
        · have hk0 : k ≠ 0 := by omega
          obtain ⟨x1, x2, x3⟩ := hla3 hk0
          simp (disch := first | assumption | omega) only [↓b_hid, bH_some, ↓hid_W, ↓W_ite, WI_t, WI_f, W_some, I3_a, I3_s, I3_m, I3_n, I3_l, I3_lt, I3_le, I3_e, I3_dv, I3_rm, I3_mx, I3_mn, I3_ab, cI, bI_0, bI_1, rZ_b, up_same, up_row, up_col, xr_some, LQ_r, LQ_l, Int.sub_self, Int.add_zero, Int.zero_add, Int.sub_zero, Int.neg_neg, not_true_eq_false, not_false_eq_true, Int.add_sub_cancel, gI_189, pI_189, iO_189, gR_189_0, aI_190, sI_190, gR_189_1, aI_191, sI_191, gR_189_3, aI_192, gR_189_10, aI_193, sI_193, gR_189_11, aI_194, sI_194, gR_189_13, aI_195, sI_195, gR_189_15, aI_196, sI_196, gR_189_17, aI_197, sI_197, gR_189_18, aI_198, sI_198, gR_189_19, aI_199, sI_199, gR_189_20, aI_200, sI_200, gR_189_23, aI_201, gR_189_24, aI_202, sI_202, gR_189_25, aI_203, sI_203, gR_189_29, aI_204, sI_204, gR_189_32, aI_205, sI_205, gR_189_35, aI_206, sI_206, pZ_189, gL_189, pL_189, hrn, WI_pos, WI_neg]
          refine W_bH (W_imp (m_isWhole hq hq' hf' hP hE' he hs hsm hg.1 hm2 x1 x2 x3) ?_)
          rintro _ ⟨v, rfl, hv⟩
          rcases hv with ⟨rfl, hR⟩ | ⟨rfl, hR⟩
          · have hb := m_bits (p := p) (l := l) (N := N) hch hN16 (fun j hj => (hpath j (by omega)).1)
            simp (disch := first | assumption | omega) only [↓b_hid, bH_some, ↓hid_W, ↓W_ite, WI_t, WI_f, W_some, I3_a, I3_s, I3_m, I3_n, I3_l, I3_lt, I3_le, I3_e, I3_dv, I3_rm, I3_mx, I3_mn, I3_ab, cI, bI_0, bI_1, rZ_b, up_same, up_row, up_col, xr_some, LQ_r, LQ_l, Int.sub_self, Int.add_zero, Int.zero_add, Int.sub_zero, Int.neg_neg, not_true_eq_false, not_false_eq_true, Int.add_sub_cancel, hb, WI_pos, WI_neg]
            have hx : ∀ k : Nat, k ≤ N → bvs ch k = bvs (fun i => if 0 ≤ i ∧ i < N then ch i else 0) k ∧ csum f ch k = csum f (fun i => if 0 ≤ i ∧ i < N then ch i else 0) k := by
              intro k
              induction k with
              | zero => intro _; exact ⟨rfl, rfl⟩
              | succ k ih => intro hk; rw [bvs, bvs, csum, csum, (ih (by omega)).1, (ih (by omega)).2, if_pos (by omega)]; exact ⟨rfl, rfl⟩
            refine ⟨bvs ch N, z', rfl, hF, Or.inr ⟨fun i => if 0 ≤ i ∧ i < N then ch i else 0, ?_, (hx N (Nat.le_refl N)).1, ?_⟩⟩
            · intro j
              show (if 0 ≤ (j : Int) ∧ (j : Int) < N then ch j else 0) = 0 ∨ (if 0 ≤ (j : Int) ∧ (j : Int) < N then ch j else 0) = 1
              split
              · exact (hpath j (by omega)).1
              · exact Or.inl rfl
            · rw [← (hx N (Nat.le_refl N)).2]
              subst hkN'
              exact Pa_code hN hN1 ⟨Nat.le_refl _, hr0, hpath⟩ hR hg
          · simp (disch := first | assumption | omega) only [↓b_hid, bH_some, ↓hid_W, ↓W_ite, WI_t, WI_f, W_some, I3_a, I3_s, I3_m, I3_n, I3_l, I3_lt, I3_le, I3_e, I3_dv, I3_rm, I3_mx, I3_mn, I3_ab, cI, bI_0, bI_1, rZ_b, up_same, up_row, up_col, xr_some, LQ_r, LQ_l, Int.sub_self, Int.add_zero, Int.zero_add, Int.sub_zero, Int.neg_neg, not_true_eq_false, not_false_eq_true, Int.add_sub_cancel, gI_189, pI_189, iO_189, gR_189_0, aI_190, sI_190, gR_189_1, aI_191, sI_191, gR_189_3, aI_192, gR_189_10, aI_193, sI_193, gR_189_11, aI_194, sI_194, gR_189_13, aI_195, sI_195, gR_189_15, aI_196, sI_196, gR_189_17, aI_197, sI_197, gR_189_18, aI_198, sI_198, gR_189_19, aI_199, sI_199, gR_189_20, aI_200, sI_200, gR_189_23, aI_201, gR_189_24, aI_202, sI_202, gR_189_25, aI_203, sI_203, gR_189_29, aI_204, sI_204, gR_189_32, aI_205, sI_205, gR_189_35, aI_206, sI_206, pZ_189, gL_189, pL_189, hrn, m_dead, sI_201, ek1, f_X12_readsPhase_393, WI_pos, WI_neg]
            have := pop (fun hx => hR (by have := hx.2; rw [hkN', Nat.sub_self] at this; rw [hkN']; exact this)) (fun h => absurd h hk0) (by unfold mt4; rw [if_pos hkN']; omega)
            rw [W_some, LQ_l] at this
            exact this
        · have hkN2 : k < N := by omega
          obtain ⟨t1, t2, t3⟩ := hTp hkN2
          by_cases hc1 : ch k = 1
          · simp (disch := first | assumption | omega) only [↓b_hid, bH_some, ↓hid_W, ↓W_ite, WI_t, WI_f, W_some, I3_a, I3_s, I3_m, I3_n, I3_l, I3_lt, I3_le, I3_e, I3_dv, I3_rm, I3_mx, I3_mn, I3_ab, cI, bI_0, bI_1, rZ_b, up_same, up_row, up_col, xr_some, LQ_r, LQ_l, Int.sub_self, Int.add_zero, Int.zero_add, Int.sub_zero, Int.neg_neg, not_true_eq_false, not_false_eq_true, Int.add_sub_cancel, gI_189, pI_189, iO_189, gR_189_0, aI_190, sI_190, gR_189_1, aI_191, sI_191, gR_189_3, aI_192, gR_189_10, aI_193, sI_193, gR_189_11, aI_194, sI_194, gR_189_13, aI_195, sI_195, gR_189_15, aI_196, sI_196, gR_189_17, aI_197, sI_197, gR_189_18, aI_198, sI_198, gR_189_19, aI_199, sI_199, gR_189_20, aI_200, sI_200, gR_189_23, aI_201, gR_189_24, aI_202, sI_202, gR_189_25, aI_203, sI_203, gR_189_29, aI_204, sI_204, gR_189_32, aI_205, sI_205, gR_189_35, aI_206, sI_206, pZ_189, gL_189, pL_189, hch, hrn, hc1, m_dead, sI_201, ek1, f_X12_readsPhase_393, WI_pos, WI_neg]
            have := pop (fun hx => by
              rcases (Rd_F hx.1 hkN2).mp hx.2 with h | h
              · exact t2 (by omega) h
              · exact t3 hc1 h) (fun h => by
                subst h
                exact ⟨fun h => t2 (by omega) ((ph0_F (rn ((0 : Nat) : Int)) hN hN1).mp h), fun h => t3 hc1 ((ph1_F (rn ((0 : Nat) : Int)) hN hN1).mp h)⟩) (by unfold mt4; rw [if_neg hkN', hc1]; omega)
            rw [W_some, LQ_l] at this
            exact this
          · obtain ⟨c, hc, hc01⟩ : ∃ c, ch k + 1 = c ∧ (c = 0 ∨ c = 1) := ⟨_, rfl, by omega⟩
            generalize hz1 : up z' 202 k c = z1
            have g201 : z1 201 = dd := by rw [← hz1, up_row (by decide), hddz]
            have g203 : z1 203 = rn := by rw [← hz1, up_row (by decide), hrn]
            have g202 : z1 202 = fun j : Int => if j = k then c else ch j := by
              rw [← hz1]; funext j; unfold up
              by_cases hj : j = k
              · rw [if_pos ⟨rfl, hj⟩, if_pos hj]
              · rw [if_neg (by omega), if_neg hj, hch]
            have gk : z1 202 k = c := by rw [g202]; simp
            have hF1 : FrS z z1 := fun a x y w => by rw [← hz1, up_row y]; exact hF a x y w
            have hE1 := Ed_S hF1 hE
            have hf1 : Rw z1 q f := Rw_congr (hF1 190 (by decide) (by decide) (by decide)) hf
            have hms1 : ∀ k' : Nat, k' ≤ k → ms (fun j : Int => if j = k then c else ch j) k' = ms ch k' := fun k' hk' => ms_congr k' (fun j hj => if_neg (by omega))
            have hF0 : c = 1 → ¬Fe f e m tol N k (rn k) 0 := fun h => t2 (by omega)
            have old : mt4 ch N k = ms ch k + (3 - c) * w4 k := by unfold mt4; rw [if_neg hkN', show ch k = c - 1 by omega]; congr 2; omega
            -- the bit doesn't do
            have stay : ¬Fe f e m tol N k (rn k) c → WP (f_X12_readsPhase_393 189 (I3 q) (I3 s) (I3 m) (I3 N) (I3 k) (M p z1 l)) (LQ (fun r => ∃ v z', r = (I3 v, M p z' l) ∧ FrS z z' ∧ (v = -1 ∧ phcode f e m tol = -9 ∨ ∃ b : Int → Int, (∀ j : Nat, b j = 0 ∨ b j = 1) ∧ v = bvs b N ∧ phcode f e m tol = csum f b N)) (SI q s m f e tol N p z l) (mt4 ch N k).toNat) := by
              intro hnF
              unfold f_X12_readsPhase_393
              rw [W_some, LQ_l]
              have new : mt4 (z1 202) N k = ms ch k + (2 - c) * w4 k := by
                unfold mt4; rw [if_neg hkN', gk, g202, hms1 k (Nat.le_refl k)]
              refine ⟨(mt4 (z1 202) N k).toNat, ?_, z1, hF1, by rw [g201]; exact hD, Or.inr ⟨k, rfl, ?_, ?_, rfl⟩⟩
              · rw [new, old]
                rcases hc01 with h | h <;> rw [h] <;> omega
              · refine ⟨hkN, by rw [g203]; exact hr0, fun j hj => ?_⟩
                rw [g203, g202]
                simp only [if_neg (show ¬(j : Int) = k by omega)]
                exact hpath j hj
              · intro _
                rw [gk, g203]
                refine ⟨by omega, fun _ => ?_, fun h => by rw [h] at hnF; exact hnF⟩
                rcases hc01 with h | h
                · rw [h] at hnF; exact hnF
                · exact hF0 h
            -- on with what goes on
            have on : ∀ v : Int, (Ed1 f e m tol k (rn k) c v ∧ 2 ≤ v ∧ v ≤ m + 2 ∨ v = -1 ∧ ∀ q', ¬Ed1 f e m tol k (rn k) c q') → WP (f_X12_readsPhase_329 189 (I3 q) (I3 s) (I3 m) (I3 N) (I3 k) (I3 v) (M p z1 l)) (LQ (fun r => ∃ v z', r = (I3 v, M p z' l) ∧ FrS z z' ∧ (v = -1 ∧ phcode f e m tol = -9 ∨ ∃ b : Int → Int, (∀ j : Nat, b j = 0 ∨ b j = 1) ∧ v = bvs b N ∧ phcode f e m tol = csum f b N)) (SI q s m f e tol N p z l) (mt4 ch N k).toNat) := by
              intro v hv
              unfold f_X12_readsPhase_329
              rcases hv with ⟨hEd, hv2, hvm⟩ | ⟨rfl, hno⟩
              · by_cases hvm2 : m < v
                · simp (disch := first | assumption | omega) only [↓b_hid, bH_some, ↓hid_W, ↓W_ite, WI_t, WI_f, W_some, I3_a, I3_s, I3_m, I3_n, I3_l, I3_lt, I3_le, I3_e, I3_dv, I3_rm, I3_mx, I3_mn, I3_ab, cI, bI_0, bI_1, rZ_b, up_same, up_row, up_col, xr_some, LQ_r, LQ_l, Int.sub_self, Int.add_zero, Int.zero_add, Int.sub_zero, Int.neg_neg, not_true_eq_false, not_false_eq_true, Int.add_sub_cancel, WI_pos, WI_neg]
                  refine stay ?_
                  rintro ⟨q', x, y⟩
                  rw [Ed1_u x hEd] at y
                  have := Rd_le y; omega
                · have hpar : v % 2 = c := by
                    have h' := hEd
                    unfold Ed1 at h'
                    split at h'
                    · split at h' <;> omega
                    · split at h' <;> omega
                  have hdi : dd (80 * ((k : Int) + 1) + 2 * v + c) = 0 ∨ dd (80 * ((k : Int) + 1) + 2 * v + c) = 1 := hD.1 _ (by omega) (by omega)
                  simp (disch := first | assumption | omega) only [↓b_hid, bH_some, ↓hid_W, ↓W_ite, WI_t, WI_f, W_some, I3_a, I3_s, I3_m, I3_n, I3_l, I3_lt, I3_le, I3_e, I3_dv, I3_rm, I3_mx, I3_mn, I3_ab, cI, bI_0, bI_1, rZ_b, up_same, up_row, up_col, xr_some, LQ_r, LQ_l, Int.sub_self, Int.add_zero, Int.zero_add, Int.sub_zero, Int.neg_neg, not_true_eq_false, not_false_eq_true, Int.add_sub_cancel, gI_189, pI_189, iO_189, gR_189_0, aI_190, sI_190, gR_189_1, aI_191, sI_191, gR_189_3, aI_192, gR_189_10, aI_193, sI_193, gR_189_11, aI_194, sI_194, gR_189_13, aI_195, sI_195, gR_189_15, aI_196, sI_196, gR_189_17, aI_197, sI_197, gR_189_18, aI_198, sI_198, gR_189_19, aI_199, sI_199, gR_189_20, aI_200, sI_200, gR_189_23, aI_201, gR_189_24, aI_202, sI_202, gR_189_25, aI_203, sI_203, gR_189_29, aI_204, sI_204, gR_189_32, aI_205, sI_205, gR_189_35, aI_206, sI_206, pZ_189, gL_189, pL_189, gk, m_dead, g201, WI_pos, WI_neg]
                  refine WI_i (fun hd0 => ?_) (fun hd1 => ?_)
                  · -- go down
                    generalize hz2 : up z1 203 ((k : Int) + 1) v = z2
                    have q201 : z2 201 = dd := by rw [← hz2, up_row (by decide), g201]
                    have q202 : z2 202 = fun j : Int => if j = k then c else ch j := by rw [← hz2, up_row (by decide), g202]
                    have q203 : z2 203 = fun j => if j = (k : Int) + 1 then v else rn j := by
                      rw [← hz2]; funext j; unfold up
                      by_cases hj : j = (k : Int) + 1
                      · rw [if_pos ⟨rfl, hj⟩, if_pos hj]
                      · rw [if_neg (by omega), if_neg hj, g203]
                    have hF2 : FrS z z2 := fun a x y w => by rw [← hz2, up_row w]; exact hF1 a x y w
                    have w41 := w4_s (k := k) (by omega)
                    have w4p := w4_pos (k + 1)
                    have hms2 : ms (fun j => if j = (k : Int) then c else ch j) (k + 1) = ms ch k + (2 - c) * w4 k := by
                      rw [ms, hms1 k (Nat.le_refl k)]; simp
                    have path2 : ∀ ch2 rn2 : Int → Int, (∀ j : Int, j ≤ k → ch2 j = if j = k then c else ch j) → rn2 = (fun j => if j = (k : Int) + 1 then v else rn j) → Pa f e m tol N (k + 1) ch2 rn2 := by
                      intro ch2 rn2 hc2 hr2
                      subst hr2
                      refine ⟨by omega, by simp only; rw [if_neg (by omega)]; exact hr0, fun j hj => ?_⟩
                      simp only
                      rw [hc2 j (by omega), if_neg (show ¬(j : Int) = (k : Int) + 1 by omega)]
                      by_cases hjk : j = k
                      · subst hjk
                        rw [if_pos rfl, if_pos rfl]
                        exact ⟨hc01, ⟨hv2, by omega, hpar⟩, hEd, hF0⟩
                      · rw [if_neg (show ¬(j : Int) = k by omega), if_neg (show ¬(j : Int) + 1 = (k : Int) + 1 by omega)]
                        exact hpath j (by omega)
                    by_cases hlast : k + 1 = N
                    · simp (disch := first | assumption | omega) only [↓b_hid, bH_some, ↓hid_W, ↓W_ite, WI_t, WI_f, W_some, I3_a, I3_s, I3_m, I3_n, I3_l, I3_lt, I3_le, I3_e, I3_dv, I3_rm, I3_mx, I3_mn, I3_ab, cI, bI_0, bI_1, rZ_b, up_same, up_row, up_col, xr_some, LQ_r, LQ_l, Int.sub_self, Int.add_zero, Int.zero_add, Int.sub_zero, Int.neg_neg, not_true_eq_false, not_false_eq_true, Int.add_sub_cancel, gI_189, pI_189, iO_189, gR_189_0, aI_190, sI_190, gR_189_1, aI_191, sI_191, gR_189_3, aI_192, gR_189_10, aI_193, sI_193, gR_189_11, aI_194, sI_194, gR_189_13, aI_195, sI_195, gR_189_15, aI_196, sI_196, gR_189_17, aI_197, sI_197, gR_189_18, aI_198, sI_198, gR_189_19, aI_199, sI_199, gR_189_20, aI_200, sI_200, gR_189_23, aI_201, gR_189_24, aI_202, sI_202, gR_189_25, aI_203, sI_203, gR_189_29, aI_204, sI_204, gR_189_32, aI_205, sI_205, gR_189_35, aI_206, sI_206, pZ_189, gL_189, pL_189, f_X12_readsPhase_393, hz2, WI_pos, WI_neg]
                      have new : mt4 (z2 202) N (k + 1) = ms ch k + (2 - c) * w4 k + w4 (k + 1) := by
                        unfold mt4; rw [if_pos hlast, q202, hms2]
                      refine ⟨(mt4 (z2 202) N (k + 1)).toNat, ?_, z2, hF2, by rw [q201]; exact hD, Or.inr ⟨k + 1, by rw [Int.natCast_add]; rfl, ?_, ?_, rfl⟩⟩
                      · rw [new, old]
                        rcases hc01 with h | h <;> rw [h] <;> omega
                      · exact path2 _ _ (fun j hj => by rw [q202]) q203
                      · intro h; omega
                    · simp (disch := first | assumption | omega) only [↓b_hid, bH_some, ↓hid_W, ↓W_ite, WI_t, WI_f, W_some, I3_a, I3_s, I3_m, I3_n, I3_l, I3_lt, I3_le, I3_e, I3_dv, I3_rm, I3_mx, I3_mn, I3_ab, cI, bI_0, bI_1, rZ_b, up_same, up_row, up_col, xr_some, LQ_r, LQ_l, Int.sub_self, Int.add_zero, Int.zero_add, Int.sub_zero, Int.neg_neg, not_true_eq_false, not_false_eq_true, Int.add_sub_cancel, gI_189, pI_189, iO_189, gR_189_0, aI_190, sI_190, gR_189_1, aI_191, sI_191, gR_189_3, aI_192, gR_189_10, aI_193, sI_193, gR_189_11, aI_194, sI_194, gR_189_13, aI_195, sI_195, gR_189_15, aI_196, sI_196, gR_189_17, aI_197, sI_197, gR_189_18, aI_198, sI_198, gR_189_19, aI_199, sI_199, gR_189_20, aI_200, sI_200, gR_189_23, aI_201, gR_189_24, aI_202, sI_202, gR_189_25, aI_203, sI_203, gR_189_29, aI_204, sI_204, gR_189_32, aI_205, sI_205, gR_189_35, aI_206, sI_206, pZ_189, gL_189, pL_189, f_X12_readsPhase_393, hz2, WI_pos, WI_neg]
                      generalize hz3 : up z2 202 ((k : Int) + 1) (-1) = z3
                      have r202 : z3 202 = fun j => if j = (k : Int) + 1 then -1 else if j = k then c else ch j := by
                        rw [← hz3]; funext j; unfold up
                        by_cases hj : j = (k : Int) + 1
                        · rw [if_pos ⟨rfl, hj⟩, if_pos hj]
                        · rw [if_neg (by omega), if_neg hj, q202]
                      have r203 : z3 203 = z2 203 := by rw [← hz3, up_row (by decide)]
                      have r201 : z3 201 = dd := by rw [← hz3, up_row (by decide), q201]
                      have hF3 : FrS z z3 := fun a x y w => by rw [← hz3, up_row y]; exact hF2 a x y w
                      have hms3 : ms (z3 202) (k + 1) = ms ch k + (2 - c) * w4 k := by
                        rw [← hms2]; exact ms_congr (k + 1) (fun j hj => by rw [r202]; simp only; rw [if_neg (by omega)])
                      have c3 : z3 202 ((k + 1 : Nat) : Int) = -1 := by rw [r202]; simp only; rw [if_pos (by omega)]
                      have new : mt4 (z3 202) N (k + 1) = ms ch k + (2 - c) * w4 k + 3 * w4 (k + 1) := by
                        unfold mt4; rw [if_neg hlast, c3, hms3]; rfl
                      refine ⟨(mt4 (z3 202) N (k + 1)).toNat, ?_, z3, hF3, by rw [r201]; exact hD, Or.inr ⟨k + 1, by rw [Int.natCast_add]; rfl, ?_, ?_, rfl⟩⟩
                      · rw [new, old]
                        rcases hc01 with h | h <;> rw [h] <;> omega
                      · refine path2 _ _ (fun j hj => ?_) (by rw [r203, q203])
                        rw [r202]; simp only; rw [if_neg (by omega)]
                      · intro _
                        rw [c3]
                        exact ⟨by omega, fun h => absurd h (by decide), fun h => absurd h (by decide)⟩
                  · simp (disch := first | assumption | omega) only [↓b_hid, bH_some, ↓hid_W, ↓W_ite, WI_t, WI_f, W_some, I3_a, I3_s, I3_m, I3_n, I3_l, I3_lt, I3_le, I3_e, I3_dv, I3_rm, I3_mx, I3_mn, I3_ab, cI, bI_0, bI_1, rZ_b, up_same, up_row, up_col, xr_some, LQ_r, LQ_l, Int.sub_self, Int.add_zero, Int.zero_add, Int.sub_zero, Int.neg_neg, not_true_eq_false, not_false_eq_true, Int.add_sub_cancel]
                    refine stay ?_
                    rintro ⟨q', x, y⟩
                    rw [Ed1_u x hEd] at y
                    refine hD.2 (k + 1) v c (by omega) (by omega) (by omega) (by omega) hpar ?_ y
                    unfold dix
                    rw [Int.natCast_add]
                    rcases hdi with h | h
                    · exact absurd h hd1
                    · exact h
              · simp (disch := first | assumption | omega) only [↓b_hid, bH_some, ↓hid_W, ↓W_ite, WI_t, WI_f, W_some, I3_a, I3_s, I3_m, I3_n, I3_l, I3_lt, I3_le, I3_e, I3_dv, I3_rm, I3_mx, I3_mn, I3_ab, cI, bI_0, bI_1, rZ_b, up_same, up_row, up_col, xr_some, LQ_r, LQ_l, Int.sub_self, Int.add_zero, Int.zero_add, Int.sub_zero, Int.neg_neg, not_true_eq_false, not_false_eq_true, Int.add_sub_cancel, WI_pos, WI_neg]
                exact stay (fun ⟨q', x, _⟩ => hno q' x)
            have off : (∀ q', ¬Ed1 f e m tol k (rn k) c q') → WP (f_X12_readsPhase_328 189 (I3 q) (I3 s) (I3 m) (I3 N) (I3 k) (M p z1 l)) (LQ (fun r => ∃ v z', r = (I3 v, M p z' l) ∧ FrS z z' ∧ (v = -1 ∧ phcode f e m tol = -9 ∨ ∃ b : Int → Int, (∀ j : Nat, b j = 0 ∨ b j = 1) ∧ v = bvs b N ∧ phcode f e m tol = csum f b N)) (SI q s m f e tol N p z l) (mt4 ch N k).toNat) := by
              intro h
              unfold f_X12_readsPhase_328
              simp (disch := first | assumption | omega) only [↓b_hid, bH_some, ↓hid_W, ↓W_ite, WI_t, WI_f, W_some, I3_a, I3_s, I3_m, I3_n, I3_l, I3_lt, I3_le, I3_e, I3_dv, I3_rm, I3_mx, I3_mn, I3_ab, cI, bI_0, bI_1, rZ_b, up_same, up_row, up_col, xr_some, LQ_r, LQ_l, Int.sub_self, Int.add_zero, Int.zero_add, Int.sub_zero, Int.neg_neg, not_true_eq_false, not_false_eq_true, Int.add_sub_cancel]
              exact on (-1) (Or.inr ⟨rfl, h⟩)
            have go : (k = 0 ∨ rn k + 1 < m ∨ rn k + 1 = m ∧ la ≠ c) → WP (f_X12_readsPhase_301 189 (I3 q) (I3 s) (I3 m) (I3 N) (I3 k) (I3 la) (M p z1 l)) (LQ (fun r => ∃ v z', r = (I3 v, M p z' l) ∧ FrS z z' ∧ (v = -1 ∧ phcode f e m tol = -9 ∨ ∃ b : Int → Int, (∀ j : Nat, b j = 0 ∨ b j = 1) ∧ v = bvs b N ∧ phcode f e m tol = csum f b N)) (SI q s m f e tol N p z l) (mt4 ch N k).toNat) := by
              intro hgo
              unfold f_X12_readsPhase_301
              simp (disch := first | assumption | omega) only [↓b_hid, bH_some, ↓hid_W, ↓W_ite, WI_t, WI_f, W_some, I3_a, I3_s, I3_m, I3_n, I3_l, I3_lt, I3_le, I3_e, I3_dv, I3_rm, I3_mx, I3_mn, I3_ab, cI, bI_0, bI_1, rZ_b, up_same, up_row, up_col, xr_some, LQ_r, LQ_l, Int.sub_self, Int.add_zero, Int.zero_add, Int.sub_zero, Int.neg_neg, not_true_eq_false, not_false_eq_true, Int.add_sub_cancel, gI_189, pI_189, iO_189, gR_189_0, aI_190, sI_190, gR_189_1, aI_191, sI_191, gR_189_3, aI_192, gR_189_10, aI_193, sI_193, gR_189_11, aI_194, sI_194, gR_189_13, aI_195, sI_195, gR_189_15, aI_196, sI_196, gR_189_17, aI_197, sI_197, gR_189_18, aI_198, sI_198, gR_189_19, aI_199, sI_199, gR_189_20, aI_200, sI_200, gR_189_23, aI_201, gR_189_24, aI_202, sI_202, gR_189_25, aI_203, sI_203, gR_189_29, aI_204, sI_204, gR_189_32, aI_205, sI_205, gR_189_35, aI_206, sI_206, pZ_189, gL_189, pL_189, g203, gk]
              refine W_bH (W_imp (m_goesOn (kn := k) hq hq' hf1 hP hE1 he hs hsm hg.1 rfl (by omega) hc01 hla3 hgo) ?_)
              rintro _ ⟨v, rfl, hv⟩
              exact on v hv
            have hk1 : k = 0 → rn k = 1 := by intro h; subst h; exact hr0
            simp (disch := first | assumption | omega) only [↓b_hid, bH_some, ↓hid_W, ↓W_ite, WI_t, WI_f, W_some, I3_a, I3_s, I3_m, I3_n, I3_l, I3_lt, I3_le, I3_e, I3_dv, I3_rm, I3_mx, I3_mn, I3_ab, cI, bI_0, bI_1, rZ_b, up_same, up_row, up_col, xr_some, LQ_r, LQ_l, Int.sub_self, Int.add_zero, Int.zero_add, Int.sub_zero, Int.neg_neg, not_true_eq_false, not_false_eq_true, Int.add_sub_cancel, gI_189, pI_189, iO_189, gR_189_0, aI_190, sI_190, gR_189_1, aI_191, sI_191, gR_189_3, aI_192, gR_189_10, aI_193, sI_193, gR_189_11, aI_194, sI_194, gR_189_13, aI_195, sI_195, gR_189_15, aI_196, sI_196, gR_189_17, aI_197, sI_197, gR_189_18, aI_198, sI_198, gR_189_19, aI_199, sI_199, gR_189_20, aI_200, sI_200, gR_189_23, aI_201, gR_189_24, aI_202, sI_202, gR_189_25, aI_203, sI_203, gR_189_29, aI_204, sI_204, gR_189_32, aI_205, sI_205, gR_189_35, aI_206, sI_206, pZ_189, gL_189, pL_189, hch, hc, hz1, g203, WI_pos, WI_neg]
            refine WI_i (fun h1 => ?_) (fun h1 => ?_)
            · simp (disch := first | assumption | omega) only [↓b_hid, bH_some, ↓hid_W, ↓W_ite, WI_t, WI_f, W_some, I3_a, I3_s, I3_m, I3_n, I3_l, I3_lt, I3_le, I3_e, I3_dv, I3_rm, I3_mx, I3_mn, I3_ab, cI, bI_0, bI_1, rZ_b, up_same, up_row, up_col, xr_some, LQ_r, LQ_l, Int.sub_self, Int.add_zero, Int.zero_add, Int.sub_zero, Int.neg_neg, not_true_eq_false, not_false_eq_true, Int.add_sub_cancel]; exact go (Or.inr (Or.inl h1))
            · have hk0 : k ≠ 0 := by intro h; have := hk1 h; omega
              simp (disch := first | assumption | omega) only [↓b_hid, bH_some, ↓hid_W, ↓W_ite, WI_t, WI_f, W_some, I3_a, I3_s, I3_m, I3_n, I3_l, I3_lt, I3_le, I3_e, I3_dv, I3_rm, I3_mx, I3_mn, I3_ab, cI, bI_0, bI_1, rZ_b, up_same, up_row, up_col, xr_some, LQ_r, LQ_l, Int.sub_self, Int.add_zero, Int.zero_add, Int.sub_zero, Int.neg_neg, not_true_eq_false, not_false_eq_true, Int.add_sub_cancel, gI_189, pI_189, iO_189, gR_189_0, aI_190, sI_190, gR_189_1, aI_191, sI_191, gR_189_3, aI_192, gR_189_10, aI_193, sI_193, gR_189_11, aI_194, sI_194, gR_189_13, aI_195, sI_195, gR_189_15, aI_196, sI_196, gR_189_17, aI_197, sI_197, gR_189_18, aI_198, sI_198, gR_189_19, aI_199, sI_199, gR_189_20, aI_200, sI_200, gR_189_23, aI_201, gR_189_24, aI_202, sI_202, gR_189_25, aI_203, sI_203, gR_189_29, aI_204, sI_204, gR_189_32, aI_205, sI_205, gR_189_35, aI_206, sI_206, pZ_189, gL_189, pL_189, g203]
              refine WI_i (fun h2 => ?_) (fun h2 => ?_)
              · simp (disch := first | assumption | omega) only [↓b_hid, bH_some, ↓hid_W, ↓W_ite, WI_t, WI_f, W_some, I3_a, I3_s, I3_m, I3_n, I3_l, I3_lt, I3_le, I3_e, I3_dv, I3_rm, I3_mx, I3_mn, I3_ab, cI, bI_0, bI_1, rZ_b, up_same, up_row, up_col, xr_some, LQ_r, LQ_l, Int.sub_self, Int.add_zero, Int.zero_add, Int.sub_zero, Int.neg_neg, not_true_eq_false, not_false_eq_true, Int.add_sub_cancel, gI_189, pI_189, iO_189, gR_189_0, aI_190, sI_190, gR_189_1, aI_191, sI_191, gR_189_3, aI_192, gR_189_10, aI_193, sI_193, gR_189_11, aI_194, sI_194, gR_189_13, aI_195, sI_195, gR_189_15, aI_196, sI_196, gR_189_17, aI_197, sI_197, gR_189_18, aI_198, sI_198, gR_189_19, aI_199, sI_199, gR_189_20, aI_200, sI_200, gR_189_23, aI_201, gR_189_24, aI_202, sI_202, gR_189_25, aI_203, sI_203, gR_189_29, aI_204, sI_204, gR_189_32, aI_205, sI_205, gR_189_35, aI_206, sI_206, pZ_189, gL_189, pL_189, gk, WI_pos, WI_neg]
                refine WI_i (fun h3 => ?_) (fun h3 => ?_)
                · simp (disch := first | assumption | omega) only [↓b_hid, bH_some, ↓hid_W, ↓W_ite, WI_t, WI_f, W_some, I3_a, I3_s, I3_m, I3_n, I3_l, I3_lt, I3_le, I3_e, I3_dv, I3_rm, I3_mx, I3_mn, I3_ab, cI, bI_0, bI_1, rZ_b, up_same, up_row, up_col, xr_some, LQ_r, LQ_l, Int.sub_self, Int.add_zero, Int.zero_add, Int.sub_zero, Int.neg_neg, not_true_eq_false, not_false_eq_true, Int.add_sub_cancel]
                  refine off (fun q' h' => ?_)
                  unfold Ed1 at h'
                  rw [if_neg hk0] at h'
                  have := hla3 hk0
                  rw [if_pos (by omega)] at h'
                  have := h'.1.2.2.1; omega
                · simp (disch := first | assumption | omega) only [↓b_hid, bH_some, ↓hid_W, ↓W_ite, WI_t, WI_f, W_some, I3_a, I3_s, I3_m, I3_n, I3_l, I3_lt, I3_le, I3_e, I3_dv, I3_rm, I3_mx, I3_mn, I3_ab, cI, bI_0, bI_1, rZ_b, up_same, up_row, up_col, xr_some, LQ_r, LQ_l, Int.sub_self, Int.add_zero, Int.zero_add, Int.sub_zero, Int.neg_neg, not_true_eq_false, not_false_eq_true, Int.add_sub_cancel]; exact go (Or.inr (Or.inr ⟨h2, h3⟩))
              · simp (disch := first | assumption | omega) only [↓b_hid, bH_some, ↓hid_W, ↓W_ite, WI_t, WI_f, W_some, I3_a, I3_s, I3_m, I3_n, I3_l, I3_lt, I3_le, I3_e, I3_dv, I3_rm, I3_mx, I3_mn, I3_ab, cI, bI_0, bI_1, rZ_b, up_same, up_row, up_col, xr_some, LQ_r, LQ_l, Int.sub_self, Int.add_zero, Int.zero_add, Int.sub_zero, Int.neg_neg, not_true_eq_false, not_false_eq_true, Int.add_sub_cancel]
                refine off (fun q' h' => ?_)
                unfold Ed1 at h'
                rw [if_neg hk0] at h'
                split at h'
                · have := h'.1.1.2.1; omega
                · have := h'.1.2.1; omega
      unfold f_X12_readsPhase_97_b
      by_cases hk0 : k = 0
      · subst hk0
        rw [if_pos rfl] at hla1
        rw [hla1] at head
        simp (disch := first | assumption | omega) only [↓b_hid, bH_some, ↓hid_W, ↓W_ite, WI_t, WI_f, W_some, I3_a, I3_s, I3_m, I3_n, I3_l, I3_lt, I3_le, I3_e, I3_dv, I3_rm, I3_mx, I3_mn, I3_ab, cI, bI_0, bI_1, rZ_b, up_same, up_row, up_col, xr_some, LQ_r, LQ_l, Int.sub_self, Int.add_zero, Int.zero_add, Int.sub_zero, Int.neg_neg, not_true_eq_false, not_false_eq_true, Int.add_sub_cancel, WI_pos, WI_neg]
        exact head
      · rw [if_neg hk0] at hla1
        rw [hla1] at head
        simp (disch := first | assumption | omega) only [↓b_hid, bH_some, ↓hid_W, ↓W_ite, WI_t, WI_f, W_some, I3_a, I3_s, I3_m, I3_n, I3_l, I3_lt, I3_le, I3_e, I3_dv, I3_rm, I3_mx, I3_mn, I3_ab, cI, bI_0, bI_1, rZ_b, up_same, up_row, up_col, xr_some, LQ_r, LQ_l, Int.sub_self, Int.add_zero, Int.zero_add, Int.sub_zero, Int.neg_neg, not_true_eq_false, not_false_eq_true, Int.add_sub_cancel, gI_189, pI_189, iO_189, gR_189_0, aI_190, sI_190, gR_189_1, aI_191, sI_191, gR_189_3, aI_192, gR_189_10, aI_193, sI_193, gR_189_11, aI_194, sI_194, gR_189_13, aI_195, sI_195, gR_189_15, aI_196, sI_196, gR_189_17, aI_197, sI_197, gR_189_18, aI_198, sI_198, gR_189_19, aI_199, sI_199, gR_189_20, aI_200, sI_200, gR_189_23, aI_201, gR_189_24, aI_202, sI_202, gR_189_25, aI_203, sI_203, gR_189_29, aI_204, sI_204, gR_189_32, aI_205, sI_205, gR_189_35, aI_206, sI_206, pZ_189, gL_189, pL_189, hch, WI_pos, WI_neg]
        exact head
  · rw [show ((0 : Nat) : Int) = 0 from rfl, h202]; intro h; omega
  · rw [show ((0 : Nat) : Int) = 0 from rfl, h202]; intro h; omega
end
