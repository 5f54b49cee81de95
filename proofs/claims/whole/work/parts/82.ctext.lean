/-! The class reads a text: tokens, words, numbers. -/
theorem ch16 {v : Int} (h0 : 0 ≤ v) (h1 : v ≤ 255) : (I3 v).toUInt32.toUInt16.toUInt32.toInt32 = I3 v := by
  have h : ∀ n : Nat, n < 256 → (I3 (n : Int)).toUInt32.toUInt16.toUInt32.toInt32 = I3 (n : Int) := by decide +kernel
  have h2 := h v.toNat (by omega)
  rw [show ((v.toNat : Nat) : Int) = v by omega] at h2
  exact h2
theorem rC_v {v : Int} (h0 : 0 ≤ v) (h1 : v ≤ 255) (μ : MS) : rC (I3 v) μ = some (I3 v, μ) := by
  unfold rC; rw [if_pos (ch16 h0 h1)]
section
variable {p : Nat → Nat} {z l : Nat → Int → Int}
theorem sI_21 {i v : Int} (h0 : 0 ≤ i) (h1 : i < 160) (hv : 0 ≤ v) (hv' : v ≤ 255) : sI (M p z l) 14 21 (I3 i) (I3 v) = some (M p (up z 21 i v) l) := sI_M rfl (by decide) h0 h1 (ch16 hv hv')
def CtB (z : Nat → Int → Int) (T : Tx) : Prop := z 20 1 = T.1 ∧ ∀ i, 0 ≤ i → i < (T.1 : Int) → z 21 i = T.2 i
def FrT (z z' : Nat → Int → Int) : Prop := (∀ k, k ≠ 20 → z' k = z k) ∧ z' 20 1 = z 20 1
theorem FrT_r (z : Nat → Int → Int) : FrT z z := ⟨fun _ _ => rfl, rfl⟩
theorem FrT_t {z z' z'' : Nat → Int → Int} (h : FrT z z') (h' : FrT z' z'') : FrT z z'' := ⟨fun k hk => (h'.1 k hk).trans (h.1 k hk), h'.2.trans h.2⟩
theorem FrT_up {i v : Int} (hi : i ≠ 1) (z : Nat → Int → Int) : FrT z (up z 20 i v) := ⟨fun k hk => up_row hk _ _ _, up_col (by omega) _ _ _ _⟩
theorem CtB_F {z z' : Nat → Int → Int} {T : Tx} (h : FrT z z') (hC : CtB z T) : CtB z' T := ⟨h.2.trans hC.1, by rw [h.1 21 (by decide)]; exact hC.2⟩
theorem g_at9 {T : Tx} {q : Int} (hT : Tg T) (hC : CtB z T) (h0 : 0 ≤ q) (h1 : q < 1000) : f_X9_at 20 (I3 q) (M p z l) = some (I3 (if q < T.1 then T.2 q else 32), M p z l) := by
  have e := hC.1
  have hT1 := hT.1
  apply W_eq; unfold f_X9_at
  by_cases h : q < T.1
  · have h2 := hT.2 q h0 h
    have e2 := hC.2 q h0 h
    rw [if_pos h]
    simp (disch := first | assumption | omega) only [↓b_hid, bH_some, ↓hid_W, W_some, I3_a, I3_s, I3_m, I3_n, I3_l, I3_lt, I3_le, I3_e, I3_dv, I3_rm, I3_mx, I3_mn, I3_ab, cI, bI_0, bI_1, rZ_b, up_same, up_row, up_col, xr_some, LQ_r, LQ_l, Int.sub_self, Int.add_zero, Int.zero_add, Int.sub_zero, Int.neg_neg, not_true_eq_false, not_false_eq_true, Int.add_sub_cancel, ↓ite_iH, iH_t, iH_f, bH_iH, ↓bH_bind, xr_iH, ↓xr_bind, W_iH, WI_t, WI_f, gI_20, pI_20, iO_20, gR_20_0, aI_21, e, e2, rC_v, iH_pos, iH_neg, WI_pos, WI_neg]
  · rw [if_neg h]
    simp (disch := first | assumption | omega) only [↓b_hid, bH_some, ↓hid_W, W_some, I3_a, I3_s, I3_m, I3_n, I3_l, I3_lt, I3_le, I3_e, I3_dv, I3_rm, I3_mx, I3_mn, I3_ab, cI, bI_0, bI_1, rZ_b, up_same, up_row, up_col, xr_some, LQ_r, LQ_l, Int.sub_self, Int.add_zero, Int.zero_add, Int.sub_zero, Int.neg_neg, not_true_eq_false, not_false_eq_true, Int.add_sub_cancel, ↓ite_iH, iH_t, iH_f, bH_iH, ↓bH_bind, xr_iH, ↓xr_bind, W_iH, WI_t, WI_f, gI_20, pI_20, iO_20, gR_20_0, aI_21, e, rC_v, iH_pos, iH_neg, WI_pos, WI_neg]
theorem g_kind9 {T : Tx} {q : Int} (hT : Tg T) (hC : CtB z T) (h0 : 0 ≤ q) (h1 : q < 1000) : f_X9_kindAt 20 (I3 q) (M p z l) = some (I3 (ckT T q), M p z l) := by
  have e := hC.1
  have hT1 := hT.1
  apply W_eq; unfold f_X9_kindAt
  by_cases h : q < T.1
  · have h2 := hT.2 q h0 h
    have e2 := hC.2 q h0 h
    by_cases c1 : 97 ≤ T.2 q ∧ T.2 q ≤ 122
    · rw [ckT_1.mpr ⟨h, c1⟩]
      simp (disch := first | assumption | omega) only [↓b_hid, bH_some, ↓hid_W, W_some, I3_a, I3_s, I3_m, I3_n, I3_l, I3_lt, I3_le, I3_e, I3_dv, I3_rm, I3_mx, I3_mn, I3_ab, cI, bI_0, bI_1, rZ_b, up_same, up_row, up_col, xr_some, LQ_r, LQ_l, Int.sub_self, Int.add_zero, Int.zero_add, Int.sub_zero, Int.neg_neg, not_true_eq_false, not_false_eq_true, Int.add_sub_cancel, ↓ite_iH, iH_t, iH_f, bH_iH, ↓bH_bind, xr_iH, ↓xr_bind, W_iH, WI_t, WI_f, gI_20, pI_20, iO_20, gR_20_0, aI_21, e, e2, iH_pos, iH_neg, WI_pos, WI_neg]
    · have hck : ckT T q = if 48 ≤ T.2 q ∧ T.2 q ≤ 57 then 2 else if T.2 q = 59 then 3 else 4 := by unfold ckT; rw [if_neg (by omega), if_neg c1]
      rw [hck]
      have h42 : WP (f_X9_kindAt_42 (I3 (T.2 q)) (M p z l)) (fun x => x = (I3 (if 48 ≤ T.2 q ∧ T.2 q ≤ 57 then 2 else if T.2 q = 59 then 3 else 4), M p z l)) := by
        unfold f_X9_kindAt_42
        by_cases c2 : 48 ≤ T.2 q ∧ T.2 q ≤ 57
        · rw [if_pos c2]
          simp (disch := first | assumption | omega) only [↓b_hid, bH_some, ↓hid_W, W_some, I3_a, I3_s, I3_m, I3_n, I3_l, I3_lt, I3_le, I3_e, I3_dv, I3_rm, I3_mx, I3_mn, I3_ab, cI, bI_0, bI_1, rZ_b, up_same, up_row, up_col, xr_some, LQ_r, LQ_l, Int.sub_self, Int.add_zero, Int.zero_add, Int.sub_zero, Int.neg_neg, not_true_eq_false, not_false_eq_true, Int.add_sub_cancel, ↓ite_iH, iH_t, iH_f, bH_iH, ↓bH_bind, xr_iH, ↓xr_bind, W_iH, WI_t, WI_f, iH_pos, iH_neg, WI_pos, WI_neg]
        · rw [if_neg c2]
          have h56 : WP (f_X9_kindAt_56 (I3 (T.2 q)) (M p z l)) (fun x => x = (I3 (if T.2 q = 59 then 3 else 4), M p z l)) := by
            unfold f_X9_kindAt_56
            by_cases c3 : T.2 q = 59
            · rw [if_pos c3]
              simp (disch := first | assumption | omega) only [↓b_hid, bH_some, ↓hid_W, W_some, I3_a, I3_s, I3_m, I3_n, I3_l, I3_lt, I3_le, I3_e, I3_dv, I3_rm, I3_mx, I3_mn, I3_ab, cI, bI_0, bI_1, rZ_b, up_same, up_row, up_col, xr_some, LQ_r, LQ_l, Int.sub_self, Int.add_zero, Int.zero_add, Int.sub_zero, Int.neg_neg, not_true_eq_false, not_false_eq_true, Int.add_sub_cancel, ↓ite_iH, iH_t, iH_f, bH_iH, ↓bH_bind, xr_iH, ↓xr_bind, W_iH, WI_t, WI_f, c3, iH_pos, iH_neg, WI_pos, WI_neg]
            · rw [if_neg c3]
              simp (disch := first | assumption | omega) only [↓b_hid, bH_some, ↓hid_W, W_some, I3_a, I3_s, I3_m, I3_n, I3_l, I3_lt, I3_le, I3_e, I3_dv, I3_rm, I3_mx, I3_mn, I3_ab, cI, bI_0, bI_1, rZ_b, up_same, up_row, up_col, xr_some, LQ_r, LQ_l, Int.sub_self, Int.add_zero, Int.zero_add, Int.sub_zero, Int.neg_neg, not_true_eq_false, not_false_eq_true, Int.add_sub_cancel, ↓ite_iH, iH_t, iH_f, bH_iH, ↓bH_bind, xr_iH, ↓xr_bind, W_iH, WI_t, WI_f, iH_pos, iH_neg, WI_pos, WI_neg]
          by_cases c4 : T.2 q < 48
          · simp (disch := first | assumption | omega) only [↓b_hid, bH_some, ↓hid_W, W_some, I3_a, I3_s, I3_m, I3_n, I3_l, I3_lt, I3_le, I3_e, I3_dv, I3_rm, I3_mx, I3_mn, I3_ab, cI, bI_0, bI_1, rZ_b, up_same, up_row, up_col, xr_some, LQ_r, LQ_l, Int.sub_self, Int.add_zero, Int.zero_add, Int.sub_zero, Int.neg_neg, not_true_eq_false, not_false_eq_true, Int.add_sub_cancel, ↓ite_iH, iH_t, iH_f, bH_iH, ↓bH_bind, xr_iH, ↓xr_bind, W_iH, WI_t, WI_f, iH_pos, iH_neg, WI_pos, WI_neg]; exact h56
          · simp (disch := first | assumption | omega) only [↓b_hid, bH_some, ↓hid_W, W_some, I3_a, I3_s, I3_m, I3_n, I3_l, I3_lt, I3_le, I3_e, I3_dv, I3_rm, I3_mx, I3_mn, I3_ab, cI, bI_0, bI_1, rZ_b, up_same, up_row, up_col, xr_some, LQ_r, LQ_l, Int.sub_self, Int.add_zero, Int.zero_add, Int.sub_zero, Int.neg_neg, not_true_eq_false, not_false_eq_true, Int.add_sub_cancel, ↓ite_iH, iH_t, iH_f, bH_iH, ↓bH_bind, xr_iH, ↓xr_bind, W_iH, WI_t, WI_f, iH_pos, iH_neg, WI_pos, WI_neg]; exact h56
      by_cases c5 : T.2 q < 97
      · simp (disch := first | assumption | omega) only [↓b_hid, bH_some, ↓hid_W, W_some, I3_a, I3_s, I3_m, I3_n, I3_l, I3_lt, I3_le, I3_e, I3_dv, I3_rm, I3_mx, I3_mn, I3_ab, cI, bI_0, bI_1, rZ_b, up_same, up_row, up_col, xr_some, LQ_r, LQ_l, Int.sub_self, Int.add_zero, Int.zero_add, Int.sub_zero, Int.neg_neg, not_true_eq_false, not_false_eq_true, Int.add_sub_cancel, ↓ite_iH, iH_t, iH_f, bH_iH, ↓bH_bind, xr_iH, ↓xr_bind, W_iH, WI_t, WI_f, gI_20, pI_20, iO_20, gR_20_0, aI_21, e, e2, iH_pos, iH_neg, WI_pos, WI_neg]; exact h42
      · simp (disch := first | assumption | omega) only [↓b_hid, bH_some, ↓hid_W, W_some, I3_a, I3_s, I3_m, I3_n, I3_l, I3_lt, I3_le, I3_e, I3_dv, I3_rm, I3_mx, I3_mn, I3_ab, cI, bI_0, bI_1, rZ_b, up_same, up_row, up_col, xr_some, LQ_r, LQ_l, Int.sub_self, Int.add_zero, Int.zero_add, Int.sub_zero, Int.neg_neg, not_true_eq_false, not_false_eq_true, Int.add_sub_cancel, ↓ite_iH, iH_t, iH_f, bH_iH, ↓bH_bind, xr_iH, ↓xr_bind, W_iH, WI_t, WI_f, gI_20, pI_20, iO_20, gR_20_0, aI_21, e, e2, iH_pos, iH_neg, WI_pos, WI_neg]; exact h42
  · rw [ckT_0.mpr (by omega)]
    simp (disch := first | assumption | omega) only [↓b_hid, bH_some, ↓hid_W, W_some, I3_a, I3_s, I3_m, I3_n, I3_l, I3_lt, I3_le, I3_e, I3_dv, I3_rm, I3_mx, I3_mn, I3_ab, cI, bI_0, bI_1, rZ_b, up_same, up_row, up_col, xr_some, LQ_r, LQ_l, Int.sub_self, Int.add_zero, Int.zero_add, Int.sub_zero, Int.neg_neg, not_true_eq_false, not_false_eq_true, Int.add_sub_cancel, ↓ite_iH, iH_t, iH_f, bH_iH, ↓bH_bind, xr_iH, ↓xr_bind, W_iH, WI_t, WI_f, gI_20, pI_20, iO_20, gR_20_0, aI_21, e, iH_pos, iH_neg, WI_pos, WI_neg]
set_option maxHeartbeats 4000000 in
theorem w_takeT {T : Tx} {q : Int} (hT : Tg T) (hC : CtB z T) (h0 : 0 ≤ q) (h1 : q ≤ T.1) (h4 : z 20 4 = q) : WP (f_X9_takeToken 20 (M p z l)) (fun μ => ∃ z', μ = M p z' l ∧ FrT z z' ∧ z' 20 2 = ckT T (tkS T q) ∧ z' 20 3 = tkS T q ∧ z' 20 4 = tkE T q) := by
  have hT1 := hT.1
  obtain ⟨s1, s2⟩ := tkS_r hT h0 h1
  obtain ⟨k1, k2, k3⟩ := tkE_r hT h0 h1
  -- behind the spaces
  have rest : ∀ z1 : Nat → Int → Int, FrT z z1 → z1 20 3 = tkS T q → WP (f_X9_takeToken_45 20 (M p z1 l)) (fun μ => ∃ z', μ = M p z' l ∧ FrT z z' ∧ z' 20 2 = ckT T (tkS T q) ∧ z' 20 3 = tkS T q ∧ z' 20 4 = tkE T q) := by
    intro z1 hF e3
    have gk := g_kind9 (p := p) (l := l) (q := tkS T q) hT (CtB_F hF hC) (by omega) (by omega)
    have ckr := ckT_r T (tkS T q)
    unfold f_X9_takeToken_45
    by_cases c0 : ckT T (tkS T q) = 0
    · have hE : tkE T q = tkS T q := by unfold tkE; rw [if_pos c0]
      rw [c0] at gk
      simp (disch := first | assumption | omega) only [↓b_hid, bH_some, ↓hid_W, W_some, I3_a, I3_s, I3_m, I3_n, I3_l, I3_lt, I3_le, I3_e, I3_dv, I3_rm, I3_mx, I3_mn, I3_ab, cI, bI_0, bI_1, rZ_b, up_same, up_row, up_col, xr_some, LQ_r, LQ_l, Int.sub_self, Int.add_zero, Int.zero_add, Int.sub_zero, Int.neg_neg, not_true_eq_false, not_false_eq_true, Int.add_sub_cancel, ↓ite_iH, iH_t, iH_f, bH_iH, ↓bH_bind, xr_iH, ↓xr_bind, W_iH, WI_t, WI_f, gI_20, pI_20, iO_20, gR_20_0, aI_21, e3, gk, f_X9_takeToken_78, iH_pos, iH_neg, WI_pos, WI_neg]
      refine ⟨_, rfl, FrT_t hF (FrT_t (FrT_up (by decide) _) (FrT_up (by decide) _)), ?_, ?_, ?_⟩
      · rw [up_col (by decide), up_same, c0]
      · rw [up_col (by decide), up_col (by decide)]; exact e3
      · rw [up_same, hE]
    · generalize hz2 : up (up z1 20 2 (ckT T (tkS T q))) 20 4 (tkS T q + 1) = z2
      have f2 : z2 20 2 = ckT T (tkS T q) := by rw [← hz2, up_col (by decide), up_same]
      have f3 : z2 20 3 = tkS T q := by rw [← hz2, up_col (by decide), up_col (by decide)]; exact e3
      have f4 : z2 20 4 = tkS T q + 1 := by rw [← hz2, up_same]
      have hF2 : FrT z z2 := by rw [← hz2]; exact FrT_t hF (FrT_t (FrT_up (by decide) _) (FrT_up (by decide) _))
      by_cases c12 : ckT T (tkS T q) = 1 ∨ ckT T (tkS T q) = 2
      · have hE : tkE T q = ruT T (ckT T (tkS T q)) 200 (tkS T q + 1) := by unfold tkE; rw [if_neg c0, if_pos c12]
        have loop : WP (f_X9_takeToken_97 20 (M p z2 l)) (fun μ => ∃ z', μ = M p z' l ∧ FrT z z' ∧ z' 20 2 = ckT T (tkS T q) ∧ z' 20 3 = tkS T q ∧ z' 20 4 = tkE T q) := by
          unfold f_X9_takeToken_97
          refine lp_W (fun n st => ∃ (i : Int) (z' : Nat → Int → Int), st = (20, M p z' l) ∧ (0 ≤ i ∧ i ≤ T.1) ∧ (T.1 : Int) - i < n ∧ FrT z z' ∧ z' 20 2 = ckT T (tkS T q) ∧ z' 20 3 = tkS T q ∧ z' 20 4 = i ∧ tkE T q = ruT T (ckT T (tkS T q)) n i) (fun n st hst => ?_) (n := 200) ⟨tkS T q + 1, z2, rfl, ?_, ?_, hF2, f2, f3, f4, hE⟩
          · obtain ⟨i, z3, rfl, hi, hn, hF3, g2, g3, g4, hEn⟩ := hst
            obtain ⟨n, rfl⟩ : ∃ m, n = m + 1 := ⟨n - 1, by omega⟩
            have hC3 := CtB_F hF3 hC
            have e1 := hC3.1
            unfold f_X9_takeToken_97_b
            rw [ruT] at hEn
            by_cases hi2 : i < T.1
            · have gki := g_kind9 (p := p) (l := l) (q := i) hT hC3 (by omega) (by omega)
              have cki := ckT_r T i
              by_cases hk : ckT T i = ckT T (tkS T q)
              · rw [if_pos ⟨hi2, hk⟩] at hEn
                rw [hk] at gki
                simp (disch := first | assumption | omega) only [↓b_hid, bH_some, ↓hid_W, W_some, I3_a, I3_s, I3_m, I3_n, I3_l, I3_lt, I3_le, I3_e, I3_dv, I3_rm, I3_mx, I3_mn, I3_ab, cI, bI_0, bI_1, rZ_b, up_same, up_row, up_col, xr_some, LQ_r, LQ_l, Int.sub_self, Int.add_zero, Int.zero_add, Int.sub_zero, Int.neg_neg, not_true_eq_false, not_false_eq_true, Int.add_sub_cancel, ↓ite_iH, iH_t, iH_f, bH_iH, ↓bH_bind, xr_iH, ↓xr_bind, W_iH, WI_t, WI_f, gI_20, pI_20, iO_20, gR_20_0, aI_21, g4, e1, gki, g2, iH_pos, iH_neg, WI_pos, WI_neg]
                refine ⟨n, by omega, i + 1, _, rfl, by omega, by omega, FrT_t hF3 (FrT_up (by decide) _), ?_, ?_, ?_, hEn⟩
                · rw [up_col (by decide)]; exact g2
                · rw [up_col (by decide)]; exact g3
                · rw [up_same]
              · rw [if_neg (fun h => hk h.2)] at hEn
                simp (disch := first | assumption | omega) only [↓b_hid, bH_some, ↓hid_W, W_some, I3_a, I3_s, I3_m, I3_n, I3_l, I3_lt, I3_le, I3_e, I3_dv, I3_rm, I3_mx, I3_mn, I3_ab, cI, bI_0, bI_1, rZ_b, up_same, up_row, up_col, xr_some, LQ_r, LQ_l, Int.sub_self, Int.add_zero, Int.zero_add, Int.sub_zero, Int.neg_neg, not_true_eq_false, not_false_eq_true, Int.add_sub_cancel, ↓ite_iH, iH_t, iH_f, bH_iH, ↓bH_bind, xr_iH, ↓xr_bind, W_iH, WI_t, WI_f, gI_20, pI_20, iO_20, gR_20_0, aI_21, g4, e1, gki, g2, f_X9_takeToken_136, iH_pos, iH_neg, WI_pos, WI_neg]
                exact ⟨z3, rfl, hF3, g2, g3, by rw [g4, hEn]⟩
            · rw [if_neg (fun h => hi2 h.1)] at hEn
              simp (disch := first | assumption | omega) only [↓b_hid, bH_some, ↓hid_W, W_some, I3_a, I3_s, I3_m, I3_n, I3_l, I3_lt, I3_le, I3_e, I3_dv, I3_rm, I3_mx, I3_mn, I3_ab, cI, bI_0, bI_1, rZ_b, up_same, up_row, up_col, xr_some, LQ_r, LQ_l, Int.sub_self, Int.add_zero, Int.zero_add, Int.sub_zero, Int.neg_neg, not_true_eq_false, not_false_eq_true, Int.add_sub_cancel, ↓ite_iH, iH_t, iH_f, bH_iH, ↓bH_bind, xr_iH, ↓xr_bind, W_iH, WI_t, WI_f, gI_20, pI_20, iO_20, gR_20_0, aI_21, g4, e1, f_X9_takeToken_136, iH_pos, iH_neg, WI_pos, WI_neg]
              exact ⟨z3, rfl, hF3, g2, g3, by rw [g4, hEn]⟩
          · have := k2 c0; omega
          · omega
        rcases c12 with c1 | c2
        · rw [c1] at gk
          rw [c1] at hz2
          rw [c1] at loop
          simp (disch := first | assumption | omega) only [↓b_hid, bH_some, ↓hid_W, W_some, I3_a, I3_s, I3_m, I3_n, I3_l, I3_lt, I3_le, I3_e, I3_dv, I3_rm, I3_mx, I3_mn, I3_ab, cI, bI_0, bI_1, rZ_b, up_same, up_row, up_col, xr_some, LQ_r, LQ_l, Int.sub_self, Int.add_zero, Int.zero_add, Int.sub_zero, Int.neg_neg, not_true_eq_false, not_false_eq_true, Int.add_sub_cancel, ↓ite_iH, iH_t, iH_f, bH_iH, ↓bH_bind, xr_iH, ↓xr_bind, W_iH, WI_t, WI_f, gI_20, pI_20, iO_20, gR_20_0, aI_21, e3, gk, f_X9_takeToken_78, hz2, f2, c1, iH_pos, iH_neg, WI_pos, WI_neg]
          exact loop
        · rw [c2] at gk
          rw [c2] at hz2
          rw [c2] at loop
          simp (disch := first | assumption | omega) only [↓b_hid, bH_some, ↓hid_W, W_some, I3_a, I3_s, I3_m, I3_n, I3_l, I3_lt, I3_le, I3_e, I3_dv, I3_rm, I3_mx, I3_mn, I3_ab, cI, bI_0, bI_1, rZ_b, up_same, up_row, up_col, xr_some, LQ_r, LQ_l, Int.sub_self, Int.add_zero, Int.zero_add, Int.sub_zero, Int.neg_neg, not_true_eq_false, not_false_eq_true, Int.add_sub_cancel, ↓ite_iH, iH_t, iH_f, bH_iH, ↓bH_bind, xr_iH, ↓xr_bind, W_iH, WI_t, WI_f, gI_20, pI_20, iO_20, gR_20_0, aI_21, e3, gk, f_X9_takeToken_78, hz2, f2, c2, iH_pos, iH_neg, WI_pos, WI_neg]
          exact loop
      · have hE : tkE T q = tkS T q + 1 := by unfold tkE; rw [if_neg c0, if_neg c12]
        simp (disch := first | assumption | omega) only [↓b_hid, bH_some, ↓hid_W, W_some, I3_a, I3_s, I3_m, I3_n, I3_l, I3_lt, I3_le, I3_e, I3_dv, I3_rm, I3_mx, I3_mn, I3_ab, cI, bI_0, bI_1, rZ_b, up_same, up_row, up_col, xr_some, LQ_r, LQ_l, Int.sub_self, Int.add_zero, Int.zero_add, Int.sub_zero, Int.neg_neg, not_true_eq_false, not_false_eq_true, Int.add_sub_cancel, ↓ite_iH, iH_t, iH_f, bH_iH, ↓bH_bind, xr_iH, ↓xr_bind, W_iH, WI_t, WI_f, gI_20, pI_20, iO_20, gR_20_0, aI_21, e3, gk, f_X9_takeToken_78, iH_pos, iH_neg, WI_pos, WI_neg]
        exact ⟨z2, by rw [hz2], hF2, f2, f3, by rw [f4, hE]⟩
  unfold f_X9_takeToken
  simp (disch := first | assumption | omega) only [↓b_hid, bH_some, ↓hid_W, W_some, I3_a, I3_s, I3_m, I3_n, I3_l, I3_lt, I3_le, I3_e, I3_dv, I3_rm, I3_mx, I3_mn, I3_ab, cI, bI_0, bI_1, rZ_b, up_same, up_row, up_col, xr_some, LQ_r, LQ_l, Int.sub_self, Int.add_zero, Int.zero_add, Int.sub_zero, Int.neg_neg, not_true_eq_false, not_false_eq_true, Int.add_sub_cancel, ↓ite_iH, iH_t, iH_f, bH_iH, ↓bH_bind, xr_iH, ↓xr_bind, W_iH, WI_t, WI_f, gI_20, pI_20, iO_20, gR_20_0, aI_21, h4]
  unfold f_X9_takeToken_8
  refine lp_W (fun n st => ∃ (i : Int) (z' : Nat → Int → Int), st = (20, M p z' l) ∧ (0 ≤ i ∧ i ≤ T.1) ∧ (T.1 : Int) - i < n ∧ FrT z z' ∧ z' 20 3 = i ∧ tkS T q = skT T n i) (fun n st hst => ?_) (n := 200) ⟨q, _, rfl, ⟨h0, h1⟩, by omega, FrT_up (by decide) _, up_same _ _ _ _, rfl⟩
  obtain ⟨i, z3, rfl, hi, hn, hF3, g3, hEn⟩ := hst
  obtain ⟨n, rfl⟩ : ∃ m, n = m + 1 := ⟨n - 1, by omega⟩
  have hC3 := CtB_F hF3 hC
  have e1 := hC3.1
  unfold f_X9_takeToken_8_b
  rw [skT] at hEn
  by_cases hi2 : i < T.1
  · have ga := g_at9 (p := p) (l := l) (q := i) hT hC3 (by omega) (by omega)
    rw [if_pos hi2] at ga
    have ti := hT.2 i (by omega) hi2
    by_cases h32 : T.2 i = 32
    · rw [if_pos ⟨hi2, h32⟩] at hEn
      rw [h32] at ga
      simp (disch := first | assumption | omega) only [↓b_hid, bH_some, ↓hid_W, W_some, I3_a, I3_s, I3_m, I3_n, I3_l, I3_lt, I3_le, I3_e, I3_dv, I3_rm, I3_mx, I3_mn, I3_ab, cI, bI_0, bI_1, rZ_b, up_same, up_row, up_col, xr_some, LQ_r, LQ_l, Int.sub_self, Int.add_zero, Int.zero_add, Int.sub_zero, Int.neg_neg, not_true_eq_false, not_false_eq_true, Int.add_sub_cancel, ↓ite_iH, iH_t, iH_f, bH_iH, ↓bH_bind, xr_iH, ↓xr_bind, W_iH, WI_t, WI_f, gI_20, pI_20, iO_20, gR_20_0, aI_21, g3, e1, ga, iH_pos, iH_neg, WI_pos, WI_neg]
      exact ⟨n, by omega, i + 1, _, rfl, by omega, by omega, FrT_t hF3 (FrT_up (by decide) _), up_same _ _ _ _, hEn⟩
    · rw [if_neg (fun h => h32 h.2)] at hEn
      have := rest z3 hF3 (by rw [g3, hEn])
      simp (disch := first | assumption | omega) only [↓b_hid, bH_some, ↓hid_W, W_some, I3_a, I3_s, I3_m, I3_n, I3_l, I3_lt, I3_le, I3_e, I3_dv, I3_rm, I3_mx, I3_mn, I3_ab, cI, bI_0, bI_1, rZ_b, up_same, up_row, up_col, xr_some, LQ_r, LQ_l, Int.sub_self, Int.add_zero, Int.zero_add, Int.sub_zero, Int.neg_neg, not_true_eq_false, not_false_eq_true, Int.add_sub_cancel, ↓ite_iH, iH_t, iH_f, bH_iH, ↓bH_bind, xr_iH, ↓xr_bind, W_iH, WI_t, WI_f, gI_20, pI_20, iO_20, gR_20_0, aI_21, g3, e1, ga, iH_pos, iH_neg, WI_pos, WI_neg]
      refine W_xr ?_
      simp only [LQ_r]
      exact this
  · rw [if_neg (fun h => hi2 h.1)] at hEn
    have := rest z3 hF3 (by rw [g3, hEn])
    simp (disch := first | assumption | omega) only [↓b_hid, bH_some, ↓hid_W, W_some, I3_a, I3_s, I3_m, I3_n, I3_l, I3_lt, I3_le, I3_e, I3_dv, I3_rm, I3_mx, I3_mn, I3_ab, cI, bI_0, bI_1, rZ_b, up_same, up_row, up_col, xr_some, LQ_r, LQ_l, Int.sub_self, Int.add_zero, Int.zero_add, Int.sub_zero, Int.neg_neg, not_true_eq_false, not_false_eq_true, Int.add_sub_cancel, ↓ite_iH, iH_t, iH_f, bH_iH, ↓bH_bind, xr_iH, ↓xr_bind, W_iH, WI_t, WI_f, gI_20, pI_20, iO_20, gR_20_0, aI_21, g3, e1, iH_pos, iH_neg, WI_pos, WI_neg]
    refine W_xr ?_
    simp only [LQ_r]
    exact this
set_option maxHeartbeats 4000000 in
theorem w_isWd {T : Tx} {W : List Int} {k s e : Int} (hT : Tg T) (hC : CtB z T) (hs : 0 ≤ s) (hse : s ≤ e) (he : e ≤ T.1) (f2 : z 20 2 = k) (hk : 0 ≤ k ∧ k ≤ 4) (f3 : z 20 3 = s) (f4 : z 20 4 = e) (hW : W.length ≤ 100) (hv : ∀ i : Nat, i < W.length → 0 ≤ W.getD i 0 ∧ W.getD i 0 ≤ 255) : WP (f_X9_isWord 20 (W.map I3) (M p z l)) (fun r => ∃ v, r = (I3 v, M p z l) ∧ ((v = 1 ∧ k = 1 ∧ e - s = W.length ∧ ∀ i : Nat, i < W.length → T.2 (s + i) = W.getD i 0) ∨ (v = 0 ∧ ¬(k = 1 ∧ e - s = W.length ∧ ∀ i : Nat, i < W.length → T.2 (s + i) = W.getD i 0)))) := by
  have hT1 := hT.1
  have hl : Int32.ofNat (W.map I3).length = I3 W.length := by rw [List.length_map]; exact (I3_N _).symm
  unfold f_X9_isWord
  by_cases hk1 : k = 1
  · subst hk1
    by_cases hlen : e - s = W.length
    · simp (disch := first | assumption | omega) only [↓b_hid, bH_some, ↓hid_W, W_some, I3_a, I3_s, I3_m, I3_n, I3_l, I3_lt, I3_le, I3_e, I3_dv, I3_rm, I3_mx, I3_mn, I3_ab, cI, bI_0, bI_1, rZ_b, up_same, up_row, up_col, xr_some, LQ_r, LQ_l, Int.sub_self, Int.add_zero, Int.zero_add, Int.sub_zero, Int.neg_neg, not_true_eq_false, not_false_eq_true, Int.add_sub_cancel, ↓ite_iH, iH_t, iH_f, bH_iH, ↓bH_bind, xr_iH, ↓xr_bind, W_iH, WI_t, WI_f, gI_20, pI_20, iO_20, gR_20_0, aI_21, f2, f3, f4, hl, hlen, iH_pos, iH_neg, WI_pos, WI_neg]
      unfold f_X9_isWord_28
      refine lp_W (fun n st => ∃ i : Nat, st = (20, W.map I3, I3 i, M p z l) ∧ i ≤ W.length ∧ n = W.length - i ∧ ∀ j : Nat, j < i → T.2 (s + j) = W.getD j 0) (fun n st hst => ?_) ⟨0, rfl, by omega, rfl, fun j hj => by omega⟩
      obtain ⟨i, rfl, hi, rfl, hm⟩ := hst
      unfold f_X9_isWord_28_b
      simp only
      by_cases hin : i < W.length
      · have ga := g_at9 (p := p) (l := l) (q := s + i) hT hC (by omega) (by omega)
        rw [if_pos (by omega)] at ga
        have ti := hT.2 (s + i) (by omega) (by omega)
        have wi := hv i hin
        have hw : wat (W.map I3) (I3 i) = some (I3 (W.getD i 0)) := by
          have h0i : (0 : Int32) ≤ I3 (i : Int) := by
            rw [show (0 : Int32) = I3 0 from rfl, I3_le (by omega) (by omega) (by omega) (by omega)]; omega
          unfold wat
          rw [I3_nat (by omega) (by omega), Int.toNat_natCast, if_pos ⟨h0i, by rw [List.length_map]; exact hin⟩]
          congr 1
          rw [List.getD_eq_getElem?_getD, List.getElem?_map, List.getElem?_eq_getElem hin, List.getD_eq_getElem?_getD, List.getElem?_eq_getElem hin]
          rfl
        by_cases hc : T.2 (s + i) = W.getD i 0
        · rw [hc] at ga
          simp (disch := first | assumption | omega) only [↓b_hid, bH_some, ↓hid_W, W_some, I3_a, I3_s, I3_m, I3_n, I3_l, I3_lt, I3_le, I3_e, I3_dv, I3_rm, I3_mx, I3_mn, I3_ab, cI, bI_0, bI_1, rZ_b, up_same, up_row, up_col, xr_some, LQ_r, LQ_l, Int.sub_self, Int.add_zero, Int.zero_add, Int.sub_zero, Int.neg_neg, not_true_eq_false, not_false_eq_true, Int.add_sub_cancel, ↓ite_iH, iH_t, iH_f, bH_iH, ↓bH_bind, xr_iH, ↓xr_bind, W_iH, WI_t, WI_f, gI_20, pI_20, iO_20, gR_20_0, aI_21, hl, f3, ga, hw, iH_pos, iH_neg, WI_pos, WI_neg]
          refine ⟨_, ?_, i + 1, by rw [Int.natCast_add]; rfl, by omega, rfl, fun j hj => ?_⟩
          · omega
          · by_cases hji : j = i
            · rw [hji]; exact hc
            · exact hm j (by omega)
        · simp (disch := first | assumption | omega) only [↓b_hid, bH_some, ↓hid_W, W_some, I3_a, I3_s, I3_m, I3_n, I3_l, I3_lt, I3_le, I3_e, I3_dv, I3_rm, I3_mx, I3_mn, I3_ab, cI, bI_0, bI_1, rZ_b, up_same, up_row, up_col, xr_some, LQ_r, LQ_l, Int.sub_self, Int.add_zero, Int.zero_add, Int.sub_zero, Int.neg_neg, not_true_eq_false, not_false_eq_true, Int.add_sub_cancel, ↓ite_iH, iH_t, iH_f, bH_iH, ↓bH_bind, xr_iH, ↓xr_bind, W_iH, WI_t, WI_f, gI_20, pI_20, iO_20, gR_20_0, aI_21, hl, f3, ga, hw, iH_pos, iH_neg, WI_pos, WI_neg]
          exact ⟨0, rfl, Or.inr ⟨rfl, fun h => hc (h.2.2 i hin)⟩⟩
      · have : i = W.length := by omega
        subst this
        simp (disch := first | assumption | omega) only [↓b_hid, bH_some, ↓hid_W, W_some, I3_a, I3_s, I3_m, I3_n, I3_l, I3_lt, I3_le, I3_e, I3_dv, I3_rm, I3_mx, I3_mn, I3_ab, cI, bI_0, bI_1, rZ_b, up_same, up_row, up_col, xr_some, LQ_r, LQ_l, Int.sub_self, Int.add_zero, Int.zero_add, Int.sub_zero, Int.neg_neg, not_true_eq_false, not_false_eq_true, Int.add_sub_cancel, ↓ite_iH, iH_t, iH_f, bH_iH, ↓bH_bind, xr_iH, ↓xr_bind, W_iH, WI_t, WI_f, hl, iH_pos, iH_neg, WI_pos, WI_neg]
        exact ⟨1, rfl, Or.inl ⟨rfl, trivial, trivial, hm⟩⟩
    · simp (disch := first | assumption | omega) only [↓b_hid, bH_some, ↓hid_W, W_some, I3_a, I3_s, I3_m, I3_n, I3_l, I3_lt, I3_le, I3_e, I3_dv, I3_rm, I3_mx, I3_mn, I3_ab, cI, bI_0, bI_1, rZ_b, up_same, up_row, up_col, xr_some, LQ_r, LQ_l, Int.sub_self, Int.add_zero, Int.zero_add, Int.sub_zero, Int.neg_neg, not_true_eq_false, not_false_eq_true, Int.add_sub_cancel, ↓ite_iH, iH_t, iH_f, bH_iH, ↓bH_bind, xr_iH, ↓xr_bind, W_iH, WI_t, WI_f, gI_20, pI_20, iO_20, gR_20_0, aI_21, f2, f3, f4, hl, iH_pos, iH_neg, WI_pos, WI_neg]
      exact ⟨0, rfl, Or.inr ⟨rfl, fun h => hlen h.2.1⟩⟩
  · simp (disch := first | assumption | omega) only [↓b_hid, bH_some, ↓hid_W, W_some, I3_a, I3_s, I3_m, I3_n, I3_l, I3_lt, I3_le, I3_e, I3_dv, I3_rm, I3_mx, I3_mn, I3_ab, cI, bI_0, bI_1, rZ_b, up_same, up_row, up_col, xr_some, LQ_r, LQ_l, Int.sub_self, Int.add_zero, Int.zero_add, Int.sub_zero, Int.neg_neg, not_true_eq_false, not_false_eq_true, Int.add_sub_cancel, ↓ite_iH, iH_t, iH_f, bH_iH, ↓bH_bind, xr_iH, ↓xr_bind, W_iH, WI_t, WI_f, gI_20, pI_20, iO_20, gR_20_0, aI_21, f2, iH_pos, iH_neg, WI_pos, WI_neg]
    exact ⟨0, rfl, Or.inr ⟨rfl, fun h => hk1 h.1⟩⟩
set_option maxHeartbeats 4000000 in
theorem w_readN {T : Tx} {q lo hi : Int} (hT : Tg T) (hC : CtB z T) (h0 : 0 ≤ q) (h1 : q ≤ T.1) (h4 : z 20 4 = q) (hlo : -1000000 ≤ lo ∧ lo ≤ 1000000) (hhi : -1000000 ≤ hi ∧ hi ≤ 1000000) : WP (f_X9_readNumber 20 (I3 lo) (I3 hi) (M p z l)) (fun r => ∃ v z', r = (I3 v, M p z' l) ∧ FrT z z' ∧ z' 20 3 = tkS T q ∧ z' 20 4 = tkE T q ∧ ((nOk T lo hi q ∧ v = tkV T q) ∨ (¬nOk T lo hi q ∧ v = -9))) := by
  have hT1 := hT.1
  obtain ⟨s1, s2⟩ := tkS_r hT h0 h1
  obtain ⟨k1, k2, k3⟩ := tkE_r hT h0 h1
  unfold f_X9_readNumber
  simp (disch := first | assumption | omega) only [↓b_hid, bH_some, ↓hid_W, W_some, I3_a, I3_s, I3_m, I3_n, I3_l, I3_lt, I3_le, I3_e, I3_dv, I3_rm, I3_mx, I3_mn, I3_ab, cI, bI_0, bI_1, rZ_b, up_same, up_row, up_col, xr_some, LQ_r, LQ_l, Int.sub_self, Int.add_zero, Int.zero_add, Int.sub_zero, Int.neg_neg, not_true_eq_false, not_false_eq_true, Int.add_sub_cancel, ↓ite_iH, iH_t, iH_f, bH_iH, ↓bH_bind, xr_iH, ↓xr_bind, W_iH, WI_t, WI_f, gI_20, pI_20, iO_20, gR_20_0, aI_21]
  refine W_bH (W_imp (w_takeT hT hC h0 h1 h4) ?_)
  rintro _ ⟨z1, rfl, hF, f2, f3, f4⟩
  have hC1 := CtB_F hF hC
  have ckr := ckT_r T (tkS T q)
  by_cases hk : ckT T (tkS T q) = 2
  · rw [hk] at f2
    by_cases h5 : 5 < tkE T q - tkS T q
    · have hn : ¬nOk T lo hi q := by
        intro h
        have := h.1
        unfold tkK at this
        rw [if_pos hk, if_pos (Or.inl h5)] at this
        omega
      simp (disch := first | assumption | omega) only [↓b_hid, bH_some, ↓hid_W, W_some, I3_a, I3_s, I3_m, I3_n, I3_l, I3_lt, I3_le, I3_e, I3_dv, I3_rm, I3_mx, I3_mn, I3_ab, cI, bI_0, bI_1, rZ_b, up_same, up_row, up_col, xr_some, LQ_r, LQ_l, Int.sub_self, Int.add_zero, Int.zero_add, Int.sub_zero, Int.neg_neg, not_true_eq_false, not_false_eq_true, Int.add_sub_cancel, ↓ite_iH, iH_t, iH_f, bH_iH, ↓bH_bind, xr_iH, ↓xr_bind, W_iH, WI_t, WI_f, gI_20, pI_20, iO_20, gR_20_0, aI_21, f2, f3, f4, iH_pos, iH_neg, WI_pos, WI_neg]
      exact ⟨-9, z1, rfl, hF, f3, f4, Or.inr ⟨hn, rfl⟩⟩
    · have e48 : tkK T q = 2 → WP (f_X9_readNumber_48 20 (I3 lo) (I3 hi) (M p z1 l)) (fun r => ∃ v z', r = (I3 v, M p z' l) ∧ FrT z z' ∧ z' 20 3 = tkS T q ∧ z' 20 4 = tkE T q ∧ ((nOk T lo hi q ∧ v = tkV T q) ∨ (¬nOk T lo hi q ∧ v = -9))) := by
        intro hkk
        have hL : (tkL T q : Int) = tkE T q - tkS T q := by unfold tkL; omega
        have hdig : ∀ i, tkS T q ≤ i → i < tkE T q → 48 ≤ T.2 i ∧ T.2 i ≤ 57 := fun i i0 i1 => by
          have := k3 (Or.inr hk) i i0 i1
          rw [hk] at this
          exact (ckT_2.mp this).2
        have hvr := tkV_r hT h0 h1 hkk
        unfold f_X9_readNumber_48
        simp (disch := first | assumption | omega) only [↓b_hid, bH_some, ↓hid_W, W_some, I3_a, I3_s, I3_m, I3_n, I3_l, I3_lt, I3_le, I3_e, I3_dv, I3_rm, I3_mx, I3_mn, I3_ab, cI, bI_0, bI_1, rZ_b, up_same, up_row, up_col, xr_some, LQ_r, LQ_l, Int.sub_self, Int.add_zero, Int.zero_add, Int.sub_zero, Int.neg_neg, not_true_eq_false, not_false_eq_true, Int.add_sub_cancel, ↓ite_iH, iH_t, iH_f, bH_iH, ↓bH_bind, xr_iH, ↓xr_bind, W_iH, WI_t, WI_f, gI_20, pI_20, iO_20, gR_20_0, aI_21, f3]
        unfold f_X9_readNumber_57
        refine lp_W (fun n st => ∃ k : Nat, st = (20, I3 lo, I3 hi, I3 (vlT T (tkS T q) k), I3 (tkS T q + k), M p z1 l) ∧ k ≤ tkL T q ∧ n = tkL T q - k) (fun n st hst => ?_) ⟨0, by rw [vlT, show tkS T q + ((0 : Nat) : Int) = tkS T q by omega], by omega, rfl⟩
        obtain ⟨k, rfl, hkl, rfl⟩ := hst
        have hvk := vlT_r (T := T) (s := tkS T q) k (fun i i0 i1 => hdig i i0 (by omega))
        have hvk2 := hvk.2 (by omega)
        have hp5 : (10 : Int) ^ k ≤ 10 ^ 5 := by
          have : (10 : Nat) ^ k ≤ 10 ^ 5 := Nat.pow_le_pow_right (by decide) (by omega)
          exact_mod_cast this
        have hp6 : (10 : Int) ^ 5 = 100000 := by decide
        unfold f_X9_readNumber_57_b
        by_cases hkL : k < tkL T q
        · have ga := g_at9 (p := p) (l := l) (q := tkS T q + k) hT hC1 (by omega) (by omega)
          rw [if_pos (by omega)] at ga
          have hd := hdig (tkS T q + k) (by omega) (by omega)
          simp (disch := first | assumption | omega) only [↓b_hid, bH_some, ↓hid_W, W_some, I3_a, I3_s, I3_m, I3_n, I3_l, I3_lt, I3_le, I3_e, I3_dv, I3_rm, I3_mx, I3_mn, I3_ab, cI, bI_0, bI_1, rZ_b, up_same, up_row, up_col, xr_some, LQ_r, LQ_l, Int.sub_self, Int.add_zero, Int.zero_add, Int.sub_zero, Int.neg_neg, not_true_eq_false, not_false_eq_true, Int.add_sub_cancel, ↓ite_iH, iH_t, iH_f, bH_iH, ↓bH_bind, xr_iH, ↓xr_bind, W_iH, WI_t, WI_f, gI_20, pI_20, iO_20, gR_20_0, aI_21, f4, ga, iH_pos, iH_neg, WI_pos, WI_neg]
          refine ⟨_, ?_, k + 1, by rw [vlT, Int.natCast_add, ← Int.add_assoc]; rfl, by omega, rfl⟩
          omega
        · have hke : k = tkL T q := by omega
          have hv : vlT T (tkS T q) k = tkV T q := by unfold tkV; rw [hke]
          rw [hv]
          simp (disch := first | assumption | omega) only [↓b_hid, bH_some, ↓hid_W, W_some, I3_a, I3_s, I3_m, I3_n, I3_l, I3_lt, I3_le, I3_e, I3_dv, I3_rm, I3_mx, I3_mn, I3_ab, cI, bI_0, bI_1, rZ_b, up_same, up_row, up_col, xr_some, LQ_r, LQ_l, Int.sub_self, Int.add_zero, Int.zero_add, Int.sub_zero, Int.neg_neg, not_true_eq_false, not_false_eq_true, Int.add_sub_cancel, ↓ite_iH, iH_t, iH_f, bH_iH, ↓bH_bind, xr_iH, ↓xr_bind, W_iH, WI_t, WI_f, gI_20, pI_20, iO_20, gR_20_0, aI_21, f4, f_X9_readNumber_89, g_inRange, iH_pos, iH_neg, WI_pos, WI_neg]
          by_cases hr : lo ≤ tkV T q ∧ tkV T q ≤ hi
          · simp (disch := first | assumption | omega) only [↓b_hid, bH_some, ↓hid_W, W_some, I3_a, I3_s, I3_m, I3_n, I3_l, I3_lt, I3_le, I3_e, I3_dv, I3_rm, I3_mx, I3_mn, I3_ab, cI, bI_0, bI_1, rZ_b, up_same, up_row, up_col, xr_some, LQ_r, LQ_l, Int.sub_self, Int.add_zero, Int.zero_add, Int.sub_zero, Int.neg_neg, not_true_eq_false, not_false_eq_true, Int.add_sub_cancel, ↓ite_iH, iH_t, iH_f, bH_iH, ↓bH_bind, xr_iH, ↓xr_bind, W_iH, WI_t, WI_f, bI_t, iH_pos, iH_neg, WI_pos, WI_neg]
            exact ⟨_, z1, rfl, hF, f3, f4, Or.inl ⟨⟨hkk, hr⟩, rfl⟩⟩
          · simp (disch := first | assumption | omega) only [↓b_hid, bH_some, ↓hid_W, W_some, I3_a, I3_s, I3_m, I3_n, I3_l, I3_lt, I3_le, I3_e, I3_dv, I3_rm, I3_mx, I3_mn, I3_ab, cI, bI_0, bI_1, rZ_b, up_same, up_row, up_col, xr_some, LQ_r, LQ_l, Int.sub_self, Int.add_zero, Int.zero_add, Int.sub_zero, Int.neg_neg, not_true_eq_false, not_false_eq_true, Int.add_sub_cancel, ↓ite_iH, iH_t, iH_f, bH_iH, ↓bH_bind, xr_iH, ↓xr_bind, W_iH, WI_t, WI_f, bI_f, iH_pos, iH_neg, WI_pos, WI_neg]
            exact ⟨-9, z1, rfl, hF, f3, f4, Or.inr ⟨fun h => hr h.2, rfl⟩⟩
      have hlt : tkS T q < tkE T q := k2 (by omega)
      by_cases h1' : tkE T q - tkS T q ≤ 1
      · have hkk : tkK T q = 2 := by unfold tkK; rw [if_pos hk, if_neg (by omega)]
        have := e48 hkk
        simp (disch := first | assumption | omega) only [↓b_hid, bH_some, ↓hid_W, W_some, I3_a, I3_s, I3_m, I3_n, I3_l, I3_lt, I3_le, I3_e, I3_dv, I3_rm, I3_mx, I3_mn, I3_ab, cI, bI_0, bI_1, rZ_b, up_same, up_row, up_col, xr_some, LQ_r, LQ_l, Int.sub_self, Int.add_zero, Int.zero_add, Int.sub_zero, Int.neg_neg, not_true_eq_false, not_false_eq_true, Int.add_sub_cancel, ↓ite_iH, iH_t, iH_f, bH_iH, ↓bH_bind, xr_iH, ↓xr_bind, W_iH, WI_t, WI_f, gI_20, pI_20, iO_20, gR_20_0, aI_21, f2, f3, f4, iH_pos, iH_neg, WI_pos, WI_neg]
        exact this
      · have ga := g_at9 (p := p) (l := l) (q := tkS T q) hT hC1 (by omega) (by omega)
        rw [if_pos (by omega)] at ga
        have ti := hT.2 (tkS T q) (by omega) (by omega)
        by_cases h48 : T.2 (tkS T q) = 48
        · have hn : ¬nOk T lo hi q := by
            intro h
            have := h.1
            unfold tkK at this
            rw [if_pos hk, if_pos (Or.inr ⟨h48, by omega⟩)] at this
            omega
          rw [h48] at ga
          simp (disch := first | assumption | omega) only [↓b_hid, bH_some, ↓hid_W, W_some, I3_a, I3_s, I3_m, I3_n, I3_l, I3_lt, I3_le, I3_e, I3_dv, I3_rm, I3_mx, I3_mn, I3_ab, cI, bI_0, bI_1, rZ_b, up_same, up_row, up_col, xr_some, LQ_r, LQ_l, Int.sub_self, Int.add_zero, Int.zero_add, Int.sub_zero, Int.neg_neg, not_true_eq_false, not_false_eq_true, Int.add_sub_cancel, ↓ite_iH, iH_t, iH_f, bH_iH, ↓bH_bind, xr_iH, ↓xr_bind, W_iH, WI_t, WI_f, gI_20, pI_20, iO_20, gR_20_0, aI_21, f2, f3, f4, ga, iH_pos, iH_neg, WI_pos, WI_neg]
          exact ⟨-9, z1, rfl, hF, f3, f4, Or.inr ⟨hn, rfl⟩⟩
        · have hkk : tkK T q = 2 := by unfold tkK; rw [if_pos hk, if_neg (by omega)]
          have := e48 hkk
          simp (disch := first | assumption | omega) only [↓b_hid, bH_some, ↓hid_W, W_some, I3_a, I3_s, I3_m, I3_n, I3_l, I3_lt, I3_le, I3_e, I3_dv, I3_rm, I3_mx, I3_mn, I3_ab, cI, bI_0, bI_1, rZ_b, up_same, up_row, up_col, xr_some, LQ_r, LQ_l, Int.sub_self, Int.add_zero, Int.zero_add, Int.sub_zero, Int.neg_neg, not_true_eq_false, not_false_eq_true, Int.add_sub_cancel, ↓ite_iH, iH_t, iH_f, bH_iH, ↓bH_bind, xr_iH, ↓xr_bind, W_iH, WI_t, WI_f, gI_20, pI_20, iO_20, gR_20_0, aI_21, f2, f3, f4, ga, iH_pos, iH_neg, WI_pos, WI_neg]
          exact this
  · have hn : ¬nOk T lo hi q := by
      intro h
      have := h.1
      unfold tkK at this
      rw [if_neg hk] at this
      exact hk this
    simp (disch := first | assumption | omega) only [↓b_hid, bH_some, ↓hid_W, W_some, I3_a, I3_s, I3_m, I3_n, I3_l, I3_lt, I3_le, I3_e, I3_dv, I3_rm, I3_mx, I3_mn, I3_ab, cI, bI_0, bI_1, rZ_b, up_same, up_row, up_col, xr_some, LQ_r, LQ_l, Int.sub_self, Int.add_zero, Int.zero_add, Int.sub_zero, Int.neg_neg, not_true_eq_false, not_false_eq_true, Int.add_sub_cancel, ↓ite_iH, iH_t, iH_f, bH_iH, ↓bH_bind, xr_iH, ↓xr_bind, W_iH, WI_t, WI_f, gI_20, pI_20, iO_20, gR_20_0, aI_21, f2, f3, f4, iH_pos, iH_neg, WI_pos, WI_neg]
    exact ⟨-9, z1, rfl, hF, f3, f4, Or.inr ⟨hn, rfl⟩⟩
theorem tkK_3 {T : Tx} {q : Int} : tkK T q = 3 ↔ ckT T (tkS T q) = 3 := by
  unfold tkK
  by_cases h : ckT T (tkS T q) = 2
  · rw [if_pos h, h]; split <;> constructor <;> intro h <;> omega
  · rw [if_neg h]
theorem tkK_01 {T : Tx} {q : Int} : (tkK T q = 0 ↔ ckT T (tkS T q) = 0) ∧ (tkK T q = 1 ↔ ckT T (tkS T q) = 1) := by
  unfold tkK
  by_cases h : ckT T (tkS T q) = 2
  · rw [if_pos h, h]; constructor <;> split <;> constructor <;> intro h <;> omega
  · rw [if_neg h]; exact ⟨Iff.rfl, Iff.rfl⟩
theorem w_readE {T : Tx} {q : Int} (hT : Tg T) (hC : CtB z T) (h0 : 0 ≤ q) (h1 : q ≤ T.1) (h4 : z 20 4 = q) : WP (f_X9_readEnd 20 (M p z l)) (fun r => ∃ v z', r = (I3 v, M p z' l) ∧ FrT z z' ∧ z' 20 3 = tkS T q ∧ z' 20 4 = tkE T q ∧ ((tkK T q = 3 ∧ v = 1) ∨ (tkK T q ≠ 3 ∧ v = 0))) := by
  have ckr := ckT_r T (tkS T q)
  unfold f_X9_readEnd
  simp (disch := first | assumption | omega) only [↓b_hid, bH_some, ↓hid_W, W_some, I3_a, I3_s, I3_m, I3_n, I3_l, I3_lt, I3_le, I3_e, I3_dv, I3_rm, I3_mx, I3_mn, I3_ab, cI, bI_0, bI_1, rZ_b, up_same, up_row, up_col, xr_some, LQ_r, LQ_l, Int.sub_self, Int.add_zero, Int.zero_add, Int.sub_zero, Int.neg_neg, not_true_eq_false, not_false_eq_true, Int.add_sub_cancel, ↓ite_iH, iH_t, iH_f, bH_iH, ↓bH_bind, xr_iH, ↓xr_bind, W_iH, WI_t, WI_f, gI_20, pI_20, iO_20, gR_20_0, aI_21]
  refine W_bH (W_imp (w_takeT hT hC h0 h1 h4) ?_)
  rintro _ ⟨z1, rfl, hF, f2, f3, f4⟩
  by_cases hk : tkK T q = 3
  · have := tkK_3.mp hk
    rw [this] at f2
    simp (disch := first | assumption | omega) only [↓b_hid, bH_some, ↓hid_W, W_some, I3_a, I3_s, I3_m, I3_n, I3_l, I3_lt, I3_le, I3_e, I3_dv, I3_rm, I3_mx, I3_mn, I3_ab, cI, bI_0, bI_1, rZ_b, up_same, up_row, up_col, xr_some, LQ_r, LQ_l, Int.sub_self, Int.add_zero, Int.zero_add, Int.sub_zero, Int.neg_neg, not_true_eq_false, not_false_eq_true, Int.add_sub_cancel, ↓ite_iH, iH_t, iH_f, bH_iH, ↓bH_bind, xr_iH, ↓xr_bind, W_iH, WI_t, WI_f, gI_20, pI_20, iO_20, gR_20_0, aI_21, f2, iH_pos, iH_neg, WI_pos, WI_neg]
    exact ⟨1, z1, rfl, hF, f3, f4, Or.inl ⟨hk, rfl⟩⟩
  · have : ckT T (tkS T q) ≠ 3 := fun h => hk (tkK_3.mpr h)
    simp (disch := first | assumption | omega) only [↓b_hid, bH_some, ↓hid_W, W_some, I3_a, I3_s, I3_m, I3_n, I3_l, I3_lt, I3_le, I3_e, I3_dv, I3_rm, I3_mx, I3_mn, I3_ab, cI, bI_0, bI_1, rZ_b, up_same, up_row, up_col, xr_some, LQ_r, LQ_l, Int.sub_self, Int.add_zero, Int.zero_add, Int.sub_zero, Int.neg_neg, not_true_eq_false, not_false_eq_true, Int.add_sub_cancel, ↓ite_iH, iH_t, iH_f, bH_iH, ↓bH_bind, xr_iH, ↓xr_bind, W_iH, WI_t, WI_f, gI_20, pI_20, iO_20, gR_20_0, aI_21, f2, iH_pos, iH_neg, WI_pos, WI_neg]
    exact ⟨0, z1, rfl, hF, f3, f4, Or.inr ⟨hk, rfl⟩⟩
end
