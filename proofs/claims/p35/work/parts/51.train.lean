/-! The class's trains, over Int. -/
section
variable {p : Nat → Nat} {z l : Nat → Int → Int}
def tat (z : Nat → Int → Int) (t : Nat) (i : Int) : Int := if 0 ≤ i ∧ i < z t 1 then z (t + 1) i else 0
theorem tat_in {z : Nat → Int → Int} {t : Nat} {i : Int} (h0 : 0 ≤ i) (h1 : i < z t 1) : tat z t i = z (t + 1) i := by unfold tat; rw [if_pos ⟨h0, h1⟩]
theorem tat_out {z : Nat → Int → Int} {t : Nat} {i : Int} (h : ¬(0 ≤ i ∧ i < z t 1)) : tat z t i = 0 := by unfold tat; rw [if_neg h]
theorem g_inRange {a b c : Int} {μ : MS} (ha : -2147483648 ≤ a) (ha' : a < 2147483648) (hb : -2147483648 ≤ b) (hb' : b < 2147483648) (hc : -2147483648 ≤ c) (hc' : c < 2147483648) : f_X11_inRange (I3 a) (I3 b) (I3 c) μ = some (I3 (bI (b ≤ a ∧ a ≤ c)), μ) := by
  apply W_eq; unfold f_X11_inRange; simp (disch := first | assumption | omega) only [↓b_hid, bH_some, ↓hid_W, ↓W_ite, WI_t, WI_f, W_some, I3_a, I3_s, I3_m, I3_n, I3_l, I3_lt, I3_le, I3_e, I3_dv, I3_rm, I3_mx, I3_mn, I3_ab, cI, bI_0, bI_1, rZ_b, up_same, up_row, up_col, xr_some, LQ_r, LQ_l, Int.sub_self, Int.add_zero, Int.zero_add, Int.sub_zero, Int.neg_neg, not_true_eq_false, not_false_eq_true, Int.add_sub_cancel]
  refine WI_i (fun h => ?_) (fun h => ?_)
  · simp (disch := first | assumption | omega) only [↓b_hid, bH_some, ↓hid_W, ↓W_ite, WI_t, WI_f, W_some, I3_a, I3_s, I3_m, I3_n, I3_l, I3_lt, I3_le, I3_e, I3_dv, I3_rm, I3_mx, I3_mn, I3_ab, cI, bI_0, bI_1, rZ_b, up_same, up_row, up_col, xr_some, LQ_r, LQ_l, Int.sub_self, Int.add_zero, Int.zero_add, Int.sub_zero, Int.neg_neg, not_true_eq_false, not_false_eq_true, Int.add_sub_cancel]; rw [bI_f (by omega)]
  · simp (disch := first | assumption | omega) only [↓b_hid, bH_some, ↓hid_W, ↓W_ite, WI_t, WI_f, W_some, I3_a, I3_s, I3_m, I3_n, I3_l, I3_lt, I3_le, I3_e, I3_dv, I3_rm, I3_mx, I3_mn, I3_ab, cI, bI_0, bI_1, rZ_b, up_same, up_row, up_col, xr_some, LQ_r, LQ_l, Int.sub_self, Int.add_zero, Int.zero_add, Int.sub_zero, Int.neg_neg, not_true_eq_false, not_false_eq_true, Int.add_sub_cancel]
    refine WI_i (fun h => ?_) (fun h => ?_)
    · simp (disch := first | assumption | omega) only [↓b_hid, bH_some, ↓hid_W, ↓W_ite, WI_t, WI_f, W_some, I3_a, I3_s, I3_m, I3_n, I3_l, I3_lt, I3_le, I3_e, I3_dv, I3_rm, I3_mx, I3_mn, I3_ab, cI, bI_0, bI_1, rZ_b, up_same, up_row, up_col, xr_some, LQ_r, LQ_l, Int.sub_self, Int.add_zero, Int.zero_add, Int.sub_zero, Int.neg_neg, not_true_eq_false, not_false_eq_true, Int.add_sub_cancel]; rw [bI_f (by omega)]
    · simp (disch := first | assumption | omega) only [↓b_hid, bH_some, ↓hid_W, ↓W_ite, WI_t, WI_f, W_some, I3_a, I3_s, I3_m, I3_n, I3_l, I3_lt, I3_le, I3_e, I3_dv, I3_rm, I3_mx, I3_mn, I3_ab, cI, bI_0, bI_1, rZ_b, up_same, up_row, up_col, xr_some, LQ_r, LQ_l, Int.sub_self, Int.add_zero, Int.zero_add, Int.sub_zero, Int.neg_neg, not_true_eq_false, not_false_eq_true, Int.add_sub_cancel]; rw [bI_t (by omega)]
theorem g_isSlot {a : Int} {μ : MS} (ha : -2147483648 ≤ a) (ha' : a < 2147483648) : f_X11_isSlot (I3 a) μ = some (I3 (bI (0 ≤ a ∧ a ≤ 2)), μ) := by
  apply W_eq; unfold f_X11_isSlot; simp (disch := first | assumption | omega) only [↓b_hid, bH_some, ↓hid_W, ↓W_ite, WI_t, WI_f, W_some, I3_a, I3_s, I3_m, I3_n, I3_l, I3_lt, I3_le, I3_e, I3_dv, I3_rm, I3_mx, I3_mn, I3_ab, cI, bI_0, bI_1, rZ_b, up_same, up_row, up_col, xr_some, LQ_r, LQ_l, Int.sub_self, Int.add_zero, Int.zero_add, Int.sub_zero, Int.neg_neg, not_true_eq_false, not_false_eq_true, Int.add_sub_cancel]
  refine WI_i (fun h => ?_) (fun h => ?_)
  · simp (disch := first | assumption | omega) only [↓b_hid, bH_some, ↓hid_W, ↓W_ite, WI_t, WI_f, W_some, I3_a, I3_s, I3_m, I3_n, I3_l, I3_lt, I3_le, I3_e, I3_dv, I3_rm, I3_mx, I3_mn, I3_ab, cI, bI_0, bI_1, rZ_b, up_same, up_row, up_col, xr_some, LQ_r, LQ_l, Int.sub_self, Int.add_zero, Int.zero_add, Int.sub_zero, Int.neg_neg, not_true_eq_false, not_false_eq_true, Int.add_sub_cancel]; rw [bI_f (by omega)]
  · simp (disch := first | assumption | omega) only [↓b_hid, bH_some, ↓hid_W, ↓W_ite, WI_t, WI_f, W_some, I3_a, I3_s, I3_m, I3_n, I3_l, I3_lt, I3_le, I3_e, I3_dv, I3_rm, I3_mx, I3_mn, I3_ab, cI, bI_0, bI_1, rZ_b, up_same, up_row, up_col, xr_some, LQ_r, LQ_l, Int.sub_self, Int.add_zero, Int.zero_add, Int.sub_zero, Int.neg_neg, not_true_eq_false, not_false_eq_true, Int.add_sub_cancel]
    refine WI_i (fun h => ?_) (fun h => ?_)
    · simp (disch := first | assumption | omega) only [↓b_hid, bH_some, ↓hid_W, ↓W_ite, WI_t, WI_f, W_some, I3_a, I3_s, I3_m, I3_n, I3_l, I3_lt, I3_le, I3_e, I3_dv, I3_rm, I3_mx, I3_mn, I3_ab, cI, bI_0, bI_1, rZ_b, up_same, up_row, up_col, xr_some, LQ_r, LQ_l, Int.sub_self, Int.add_zero, Int.zero_add, Int.sub_zero, Int.neg_neg, not_true_eq_false, not_false_eq_true, Int.add_sub_cancel]; rw [bI_f (by omega)]
    · simp (disch := first | assumption | omega) only [↓b_hid, bH_some, ↓hid_W, ↓W_ite, WI_t, WI_f, W_some, I3_a, I3_s, I3_m, I3_n, I3_l, I3_lt, I3_le, I3_e, I3_dv, I3_rm, I3_mx, I3_mn, I3_ab, cI, bI_0, bI_1, rZ_b, up_same, up_row, up_col, xr_some, LQ_r, LQ_l, Int.sub_self, Int.add_zero, Int.zero_add, Int.sub_zero, Int.neg_neg, not_true_eq_false, not_false_eq_true, Int.add_sub_cancel]; rw [bI_t (by omega)]
theorem g_isLength {a : Int} {μ : MS} (ha : -2147483648 ≤ a) (ha' : a < 2147483648) : f_X11_isLength (I3 a) μ = some (I3 (bI (50 ≤ a ∧ a ≤ 20000)), μ) := by
  apply W_eq; unfold f_X11_isLength; simp (disch := first | assumption | omega) only [↓b_hid, bH_some, ↓hid_W, ↓W_ite, WI_t, WI_f, W_some, I3_a, I3_s, I3_m, I3_n, I3_l, I3_lt, I3_le, I3_e, I3_dv, I3_rm, I3_mx, I3_mn, I3_ab, cI, bI_0, bI_1, rZ_b, up_same, up_row, up_col, xr_some, LQ_r, LQ_l, Int.sub_self, Int.add_zero, Int.zero_add, Int.sub_zero, Int.neg_neg, not_true_eq_false, not_false_eq_true, Int.add_sub_cancel, g_inRange]
theorem g_at {t : Nat} {i : Int} (ht : isT t) (h0 : 0 ≤ z t 1) (h1 : z t 1 ≤ 200) (hi : -2147483648 ≤ i) (hi' : i < 2147483648) : f_X10_at t (I3 i) (M p z l) = some (I3 (tat z t i), M p z l) := by
  apply W_eq; unfold f_X10_at; simp (disch := first | assumption | omega) only [↓b_hid, bH_some, ↓hid_W, ↓W_ite, WI_t, WI_f, W_some, I3_a, I3_s, I3_m, I3_n, I3_l, I3_lt, I3_le, I3_e, I3_dv, I3_rm, I3_mx, I3_mn, I3_ab, cI, bI_0, bI_1, rZ_b, up_same, up_row, up_col, xr_some, LQ_r, LQ_l, Int.sub_self, Int.add_zero, Int.zero_add, Int.sub_zero, Int.neg_neg, not_true_eq_false, not_false_eq_true, Int.add_sub_cancel, gI_T, pI_T, iO_T, gR_T, aI_T, sI_T, cpI_T]
  refine WI_i (fun h => ?_) (fun h => ?_)
  · simp (disch := first | assumption | omega) only [↓b_hid, bH_some, ↓hid_W, ↓W_ite, WI_t, WI_f, W_some, I3_a, I3_s, I3_m, I3_n, I3_l, I3_lt, I3_le, I3_e, I3_dv, I3_rm, I3_mx, I3_mn, I3_ab, cI, bI_0, bI_1, rZ_b, up_same, up_row, up_col, xr_some, LQ_r, LQ_l, Int.sub_self, Int.add_zero, Int.zero_add, Int.sub_zero, Int.neg_neg, not_true_eq_false, not_false_eq_true, Int.add_sub_cancel]; rw [tat_out (by omega)]
  · simp (disch := first | assumption | omega) only [↓b_hid, bH_some, ↓hid_W, ↓W_ite, WI_t, WI_f, W_some, I3_a, I3_s, I3_m, I3_n, I3_l, I3_lt, I3_le, I3_e, I3_dv, I3_rm, I3_mx, I3_mn, I3_ab, cI, bI_0, bI_1, rZ_b, up_same, up_row, up_col, xr_some, LQ_r, LQ_l, Int.sub_self, Int.add_zero, Int.zero_add, Int.sub_zero, Int.neg_neg, not_true_eq_false, not_false_eq_true, Int.add_sub_cancel, gI_T, pI_T, iO_T, gR_T, aI_T, sI_T, cpI_T]
    refine WI_i (fun h => ?_) (fun h => ?_)
    · simp (disch := first | assumption | omega) only [↓b_hid, bH_some, ↓hid_W, ↓W_ite, WI_t, WI_f, W_some, I3_a, I3_s, I3_m, I3_n, I3_l, I3_lt, I3_le, I3_e, I3_dv, I3_rm, I3_mx, I3_mn, I3_ab, cI, bI_0, bI_1, rZ_b, up_same, up_row, up_col, xr_some, LQ_r, LQ_l, Int.sub_self, Int.add_zero, Int.zero_add, Int.sub_zero, Int.neg_neg, not_true_eq_false, not_false_eq_true, Int.add_sub_cancel]; rw [tat_out (by omega)]
    · simp (disch := first | assumption | omega) only [↓b_hid, bH_some, ↓hid_W, ↓W_ite, WI_t, WI_f, W_some, I3_a, I3_s, I3_m, I3_n, I3_l, I3_lt, I3_le, I3_e, I3_dv, I3_rm, I3_mx, I3_mn, I3_ab, cI, bI_0, bI_1, rZ_b, up_same, up_row, up_col, xr_some, LQ_r, LQ_l, Int.sub_self, Int.add_zero, Int.zero_add, Int.sub_zero, Int.neg_neg, not_true_eq_false, not_false_eq_true, Int.add_sub_cancel, gI_T, pI_T, iO_T, gR_T, aI_T, sI_T, cpI_T, WI_pos, WI_neg]
      rw [tat_in (by omega) (by omega)]
theorem g_put {t : Nat} {v : Int} (ht : isT t) (h0 : 0 ≤ z t 1) (h1 : z t 1 < 200) : f_X10_put t (I3 v) (M p z l) = some (M p (up (up z (t + 1) (z t 1) v) t 1 (z t 1 + 1)) l) := by
  have hn : t ≠ t + 1 := by omega
  apply W_eq; unfold f_X10_put; simp (disch := first | assumption | omega) only [↓b_hid, bH_some, ↓hid_W, ↓W_ite, WI_t, WI_f, W_some, I3_a, I3_s, I3_m, I3_n, I3_l, I3_lt, I3_le, I3_e, I3_dv, I3_rm, I3_mx, I3_mn, I3_ab, cI, bI_0, bI_1, rZ_b, up_same, up_row, up_col, xr_some, LQ_r, LQ_l, Int.sub_self, Int.add_zero, Int.zero_add, Int.sub_zero, Int.neg_neg, not_true_eq_false, not_false_eq_true, Int.add_sub_cancel, gI_T, pI_T, iO_T, gR_T, aI_T, sI_T, cpI_T, WI_pos, WI_neg]
theorem g_ewm {t : Nat} (ht : isT t) (h0 : 0 ≤ z t 1) (h1 : z t 1 ≤ 200) : f_X10_endsWithMark t (M p z l) = some (I3 (bI (z t 1 % 2 = 1)), M p z l) := by
  apply W_eq; unfold f_X10_endsWithMark; simp (disch := first | assumption | omega) only [↓b_hid, bH_some, ↓hid_W, ↓W_ite, WI_t, WI_f, W_some, I3_a, I3_s, I3_m, I3_n, I3_l, I3_lt, I3_le, I3_e, I3_dv, I3_rm, I3_mx, I3_mn, I3_ab, cI, bI_0, bI_1, rZ_b, up_same, up_row, up_col, xr_some, LQ_r, LQ_l, Int.sub_self, Int.add_zero, Int.zero_add, Int.sub_zero, Int.neg_neg, not_true_eq_false, not_false_eq_true, Int.add_sub_cancel, gI_T, pI_T, iO_T, gR_T, aI_T, sI_T, cpI_T]
  refine WI_i (fun h => ?_) (fun h => ?_)
  · simp (disch := first | assumption | omega) only [↓b_hid, bH_some, ↓hid_W, ↓W_ite, WI_t, WI_f, W_some, I3_a, I3_s, I3_m, I3_n, I3_l, I3_lt, I3_le, I3_e, I3_dv, I3_rm, I3_mx, I3_mn, I3_ab, cI, bI_0, bI_1, rZ_b, up_same, up_row, up_col, xr_some, LQ_r, LQ_l, Int.sub_self, Int.add_zero, Int.zero_add, Int.sub_zero, Int.neg_neg, not_true_eq_false, not_false_eq_true, Int.add_sub_cancel]; rw [bI_t h]
  · simp (disch := first | assumption | omega) only [↓b_hid, bH_some, ↓hid_W, ↓W_ite, WI_t, WI_f, W_some, I3_a, I3_s, I3_m, I3_n, I3_l, I3_lt, I3_le, I3_e, I3_dv, I3_rm, I3_mx, I3_mn, I3_ab, cI, bI_0, bI_1, rZ_b, up_same, up_row, up_col, xr_some, LQ_r, LQ_l, Int.sub_self, Int.add_zero, Int.zero_add, Int.sub_zero, Int.neg_neg, not_true_eq_false, not_false_eq_true, Int.add_sub_cancel]; rw [bI_f h]
theorem g_tcopy {a b : Nat} (ha : isT a) (hb : isT b) (hab : a ≠ b) (hab' : a ≠ b + 1) (h0 : 0 ≤ z b 1) (h1 : z b 1 ≤ 200) : f_X10_copyFrom a b (M p z l) = some (M p (cpr (up z a 1 (z b 1)) (b + 1) (a + 1) (z b 1)) l) := by
  apply W_eq; unfold f_X10_copyFrom
  have e1 : (if z b 1 < 0 then 0 else z b 1) = z b 1 := if_neg (by omega)
  have e2 : (if 200 < z b 1 then 200 else z b 1) = z b 1 := if_neg (by omega)
  simp (disch := first | assumption | omega) only [↓b_hid, bH_some, ↓hid_W, ↓W_ite, WI_t, WI_f, W_some, I3_a, I3_s, I3_m, I3_n, I3_l, I3_lt, I3_le, I3_e, I3_dv, I3_rm, I3_mx, I3_mn, I3_ab, cI, bI_0, bI_1, rZ_b, up_same, up_row, up_col, xr_some, LQ_r, LQ_l, Int.sub_self, Int.add_zero, Int.zero_add, Int.sub_zero, Int.neg_neg, not_true_eq_false, not_false_eq_true, Int.add_sub_cancel, gI_T, pI_T, iO_T, gR_T, aI_T, sI_T, cpI_T, e1, e2]
theorem g_join {t : Nat} {m v : Int} (ht : isT t) (h0 : 0 ≤ z t 1) (h1 : z t 1 < 200) (hm : 0 ≤ m) (hm' : m ≤ 1) : f_X10_join t (I3 m) (I3 v) (M p z l) = some (M p (if 0 < z t 1 ∧ z t 1 % 2 = m then up z (t + 1) (z t 1 - 1) (z (t + 1) (z t 1 - 1) + v) else up (up z (t + 1) (z t 1) v) t 1 (z t 1 + 1)) l) := by
  apply W_eq; unfold f_X10_join
  by_cases hp : 0 < z t 1
  · have hb : z t 1 % 2 = 0 ∨ z t 1 % 2 = 1 := by omega
    by_cases hq : z t 1 % 2 = m
    · have e : bI (z t 1 % 2 = 1) = m := by
        rcases hb with hb | hb
        · rw [bI_f (by omega)]; omega
        · rw [bI_t hb]; omega
      simp (disch := first | assumption | omega) only [↓b_hid, bH_some, ↓hid_W, ↓W_ite, WI_t, WI_f, W_some, I3_a, I3_s, I3_m, I3_n, I3_l, I3_lt, I3_le, I3_e, I3_dv, I3_rm, I3_mx, I3_mn, I3_ab, cI, bI_0, bI_1, rZ_b, up_same, up_row, up_col, xr_some, LQ_r, LQ_l, Int.sub_self, Int.add_zero, Int.zero_add, Int.sub_zero, Int.neg_neg, not_true_eq_false, not_false_eq_true, Int.add_sub_cancel, gI_T, pI_T, iO_T, gR_T, aI_T, sI_T, cpI_T, g_ewm, e, f_X10_join_43, g_put, WI_pos, WI_neg]
      rw [if_pos ⟨hp, hq⟩]
    · have e : ¬ bI (z t 1 % 2 = 1) = m := by
        rcases hb with hb | hb
        · rw [bI_f (by omega)]; omega
        · rw [bI_t hb]; omega
      have r := bI_r (z t 1 % 2 = 1)
      simp (disch := first | assumption | omega) only [↓b_hid, bH_some, ↓hid_W, ↓W_ite, WI_t, WI_f, W_some, I3_a, I3_s, I3_m, I3_n, I3_l, I3_lt, I3_le, I3_e, I3_dv, I3_rm, I3_mx, I3_mn, I3_ab, cI, bI_0, bI_1, rZ_b, up_same, up_row, up_col, xr_some, LQ_r, LQ_l, Int.sub_self, Int.add_zero, Int.zero_add, Int.sub_zero, Int.neg_neg, not_true_eq_false, not_false_eq_true, Int.add_sub_cancel, gI_T, pI_T, iO_T, gR_T, aI_T, sI_T, cpI_T, g_ewm, f_X10_join_43, g_put, WI_pos, WI_neg]
      rw [if_neg (by omega)]
  · simp (disch := first | assumption | omega) only [↓b_hid, bH_some, ↓hid_W, ↓W_ite, WI_t, WI_f, W_some, I3_a, I3_s, I3_m, I3_n, I3_l, I3_lt, I3_le, I3_e, I3_dv, I3_rm, I3_mx, I3_mn, I3_ab, cI, bI_0, bI_1, rZ_b, up_same, up_row, up_col, xr_some, LQ_r, LQ_l, Int.sub_self, Int.add_zero, Int.zero_add, Int.sub_zero, Int.neg_neg, not_true_eq_false, not_false_eq_true, Int.add_sub_cancel, gI_T, pI_T, iO_T, gR_T, aI_T, sI_T, cpI_T, g_ewm, f_X10_join_43, g_put, WI_pos, WI_neg]
    rw [if_neg (by omega)]
theorem g_longest {t : Nat} (ht : isT t) (h0 : 0 ≤ z t 1) (h1 : z t 1 ≤ 200) (hd : ∀ i, 0 ≤ i → i < z t 1 → 0 ≤ z (t + 1) i ∧ z (t + 1) i < 2147483648) : WP (f_X10_longest t (M p z l)) (fun r => r.2 = M p z l ∧ ∃ v, r.1 = I3 v ∧ 0 ≤ v ∧ v < 2147483648 ∧ (60000 < v ↔ ∃ i, 0 ≤ i ∧ i < z t 1 ∧ 60000 < z (t + 1) i)) := by
  unfold f_X10_longest f_X10_longest_4
  refine lp_W (fun n s => ∃ m i : Int, s = (t, I3 m, I3 i, M p z l) ∧ 0 ≤ i ∧ i ≤ z t 1 ∧ n = (z t 1 - i).toNat ∧ 0 ≤ m ∧ m < 2147483648 ∧ (60000 < m ↔ ∃ j, 0 ≤ j ∧ j < i ∧ 60000 < z (t + 1) j)) (fun n s hs => ?_) ⟨0, 0, rfl, by omega, h0, rfl, by omega, by omega, ?_⟩
  · obtain ⟨m, i, rfl, hi0, hi1, rfl, hm0, hm1, hm⟩ := hs
    unfold f_X10_longest_4_b
    by_cases hi : i < z t 1
    · have hx := hd i hi0 hi
      have e := tat_in hi0 hi
      simp (disch := first | assumption | omega) only [↓b_hid, bH_some, ↓hid_W, ↓W_ite, WI_t, WI_f, W_some, I3_a, I3_s, I3_m, I3_n, I3_l, I3_lt, I3_le, I3_e, I3_dv, I3_rm, I3_mx, I3_mn, I3_ab, cI, bI_0, bI_1, rZ_b, up_same, up_row, up_col, xr_some, LQ_r, LQ_l, Int.sub_self, Int.add_zero, Int.zero_add, Int.sub_zero, Int.neg_neg, not_true_eq_false, not_false_eq_true, Int.add_sub_cancel, gI_T, pI_T, iO_T, gR_T, aI_T, sI_T, cpI_T, g_at, e, WI_pos, WI_neg]
      refine ⟨_, ?_, _, i + 1, rfl, by omega, by omega, rfl, ?_, ?_, ?_⟩
      · omega
      · split <;> omega
      · split <;> omega
      · constructor
        · intro h
          by_cases h2 : 60000 < m
          · obtain ⟨j, h3, h4, h5⟩ := hm.mp h2
            exact ⟨j, h3, by omega, h5⟩
          · refine ⟨i, hi0, by omega, ?_⟩
            split at h <;> omega
        · rintro ⟨j, h3, h4, h5⟩
          by_cases h6 : j = i
          · subst h6; split <;> omega
          · have := hm.mpr ⟨j, h3, by omega, h5⟩
            split <;> omega
    · have : i = z t 1 := by omega
      subst this
      simp (disch := first | assumption | omega) only [↓b_hid, bH_some, ↓hid_W, ↓W_ite, WI_t, WI_f, W_some, I3_a, I3_s, I3_m, I3_n, I3_l, I3_lt, I3_le, I3_e, I3_dv, I3_rm, I3_mx, I3_mn, I3_ab, cI, bI_0, bI_1, rZ_b, up_same, up_row, up_col, xr_some, LQ_r, LQ_l, Int.sub_self, Int.add_zero, Int.zero_add, Int.sub_zero, Int.neg_neg, not_true_eq_false, not_false_eq_true, Int.add_sub_cancel, gI_T, pI_T, iO_T, gR_T, aI_T, sI_T, cpI_T, f_X10_longest_28, WI_pos, WI_neg]
      exact ⟨trivial, m, rfl, hm0, hm1, hm⟩
  · exact ⟨fun h => by omega, fun ⟨j, h3, h4, _⟩ => by omega⟩
/-- what a duration becomes -/
def stv (d e : Int) : Int := if d * (100 + e) / 100 < 1 then 1 else if 60000 < d * (100 + e) / 100 then 60000 else d * (100 + e) / 100
def ste (c k : Int) : Int := if k % 3 = 0 then -c else if k % 3 = 1 then 0 else c
/-- how many of the first change -/
def stc (d : Int → Int) (c : Int) : Nat → Int
  | 0 => 0
  | n + 1 => stc d c n + (if stv (d n) (ste c n) = d n then 0 else 1)
theorem stc_r (d : Int → Int) (c : Int) : ∀ n : Nat, 0 ≤ stc d c n ∧ stc d c n ≤ n
  | 0 => by simp [stc]
  | n + 1 => by have := stc_r d c n; unfold stc; split <;> omega
end
section
variable {p : Nat → Nat} {z l : Nat → Int → Int}
/-- the train t holds what its first i durations became -/
def stz (z : Nat → Int → Int) (t : Nat) (c i : Int) : Nat → Int → Int := fun k j => if k = t + 1 ∧ 0 ≤ j ∧ j < i then stv (z (t + 1) j) (ste c j) else z k j
theorem stz_up (z : Nat → Int → Int) (t : Nat) (c : Int) {i : Int} (h : 0 ≤ i) : up (stz z t c i) (t + 1) i (stv (z (t + 1) i) (ste c i)) = stz z t c (i + 1) := by
  funext k j
  unfold up stz
  by_cases hk : k = t + 1
  · subst hk
    by_cases hj : j = i
    · subst hj; rw [if_pos ⟨rfl, rfl⟩, if_pos (by omega)]
    · rw [if_neg (by omega)]
      by_cases h2 : 0 ≤ j ∧ j < i
      · rw [if_pos (by omega), if_pos (by omega)]
      · rw [if_neg (by omega), if_neg (by omega)]
  · rw [if_neg (by omega), if_neg (by omega), if_neg (by omega)]
theorem stv_r (d e : Int) : 1 ≤ stv d e ∧ stv d e ≤ 60000 := by unfold stv; split <;> (try split) <;> omega
theorem ste_r {c k : Int} (hc : -30 ≤ c) (hc' : c ≤ 30) : -30 ≤ ste c k ∧ ste c k ≤ 30 := by unfold ste; split <;> (try split) <;> omega
theorem ste_m {d e : Int} (h0 : 1 ≤ d) (h1 : d ≤ 60000) (h2 : -30 ≤ e) (h3 : e ≤ 30) : 0 ≤ d * (100 + e) ∧ d * (100 + e) ≤ 7800000 := by
  constructor
  · exact Int.mul_nonneg (by omega) (by omega)
  · exact Int.le_trans (Int.mul_le_mul h1 (show 100 + e ≤ 130 by omega) (by omega) (by omega)) (by decide)
theorem stv_e (d e : Int) : (if 60000 < (if d * (100 + e) / 100 < 1 then 1 else d * (100 + e) / 100) then 60000 else (if d * (100 + e) / 100 < 1 then 1 else d * (100 + e) / 100)) = stv d e := by
  unfold stv; split <;> split <;> first | rfl | omega
theorem g_stretch {t : Nat} {c : Int} (ht : isT t) (h0 : 0 ≤ z t 1) (h1 : z t 1 ≤ 200) (hc : -30 ≤ c) (hc' : c ≤ 30) (hd : ∀ i, 0 ≤ i → i < z t 1 → 1 ≤ z (t + 1) i ∧ z (t + 1) i ≤ 60000) : f_X10_stretch t (I3 c) (M p z l) = some (I3 (stc (fun i => z (t + 1) i) c (z t 1).toNat), M p (stz z t c (z t 1)) l) := by
  apply W_eq
  unfold f_X10_stretch f_X10_stretch_4
  refine lp_W (fun n s => ∃ i : Nat, s = (t, I3 c, I3 (stc (fun i => z (t + 1) i) c i), I3 i, M p (stz z t c i) l) ∧ (i : Int) ≤ z t 1 ∧ n = (z t 1).toNat - i) (fun n s hs => ?_) ⟨0, ?_, by omega, rfl⟩
  · obtain ⟨i, rfl, hi1, rfl⟩ := hs
    have r := stc_r (fun i => z (t + 1) i) c i
    have e0 : stz z t c i t 1 = z t 1 := by unfold stz; rw [if_neg (by omega)]
    have e1 : stz z t c i (t + 1) i = z (t + 1) i := by unfold stz; rw [if_neg (by omega)]
    unfold f_X10_stretch_4_b
    by_cases hi : (i : Int) < z t 1
    · obtain ⟨hx0, hx1⟩ := hd i (by omega) hi
      obtain ⟨hm0, hm1⟩ := ste_m hx0 hx1 (ste_r (k := i) hc hc').1 (ste_r (k := i) hc hc').2
      have hst := stv_e (z (t + 1) i) (ste c i)
      have hs := stv_r (z (t + 1) i) (ste c i)
      have hu := stz_up z t c (i := i) (by omega)
      have key : WP (f_X10_stretch_42 t (I3 c) (I3 (stc (fun i => z (t + 1) i) c i)) (I3 i) (I3 (ste c i)) (M p (stz z t c i) l)) (LQ (fun r => r = (I3 (stc (fun i => z (t + 1) i) c (z t 1).toNat), M p (stz z t c (z t 1)) l)) (fun n s => ∃ i : Nat, s = (t, I3 c, I3 (stc (fun i => z (t + 1) i) c i), I3 i, M p (stz z t c i) l) ∧ (i : Int) ≤ z t 1 ∧ n = (z t 1).toNat - i) ((z t 1).toNat - i)) := by
        unfold f_X10_stretch_42
        simp (disch := first | assumption | omega) only [↓b_hid, bH_some, ↓hid_W, ↓W_ite, WI_t, WI_f, W_some, I3_a, I3_s, I3_m, I3_n, I3_l, I3_lt, I3_le, I3_e, I3_dv, I3_rm, I3_mx, I3_mn, I3_ab, cI, bI_0, bI_1, rZ_b, up_same, up_row, up_col, xr_some, LQ_r, LQ_l, Int.sub_self, Int.add_zero, Int.zero_add, Int.sub_zero, Int.neg_neg, not_true_eq_false, not_false_eq_true, Int.add_sub_cancel, gI_T, pI_T, iO_T, gR_T, aI_T, sI_T, cpI_T, e1, hst]
        refine WI_i (fun h => ?_) (fun h => ?_)
        · simp (disch := first | assumption | omega) only [↓b_hid, bH_some, ↓hid_W, ↓W_ite, WI_t, WI_f, W_some, I3_a, I3_s, I3_m, I3_n, I3_l, I3_lt, I3_le, I3_e, I3_dv, I3_rm, I3_mx, I3_mn, I3_ab, cI, bI_0, bI_1, rZ_b, up_same, up_row, up_col, xr_some, LQ_r, LQ_l, Int.sub_self, Int.add_zero, Int.zero_add, Int.sub_zero, Int.neg_neg, not_true_eq_false, not_false_eq_true, Int.add_sub_cancel, gI_T, pI_T, iO_T, gR_T, aI_T, sI_T, cpI_T, f_X10_stretch_88, hu]
          refine ⟨_, ?_, i + 1, ?_, by omega, rfl⟩
          · omega
          · rw [show stc (fun i => z (t + 1) i) c (i + 1) = stc (fun i => z (t + 1) i) c i by rw [stc, if_pos h, Int.add_zero], Int.natCast_add]; rfl
        · simp (disch := first | assumption | omega) only [↓b_hid, bH_some, ↓hid_W, ↓W_ite, WI_t, WI_f, W_some, I3_a, I3_s, I3_m, I3_n, I3_l, I3_lt, I3_le, I3_e, I3_dv, I3_rm, I3_mx, I3_mn, I3_ab, cI, bI_0, bI_1, rZ_b, up_same, up_row, up_col, xr_some, LQ_r, LQ_l, Int.sub_self, Int.add_zero, Int.zero_add, Int.sub_zero, Int.neg_neg, not_true_eq_false, not_false_eq_true, Int.add_sub_cancel, gI_T, pI_T, iO_T, gR_T, aI_T, sI_T, cpI_T, f_X10_stretch_88, hu]
          refine ⟨_, ?_, i + 1, ?_, by omega, rfl⟩
          · omega
          · rw [show stc (fun i => z (t + 1) i) c (i + 1) = stc (fun i => z (t + 1) i) c i + 1 by rw [stc, if_neg h], Int.natCast_add]; rfl
      simp (disch := first | assumption | omega) only [↓b_hid, bH_some, ↓hid_W, ↓W_ite, WI_t, WI_f, W_some, I3_a, I3_s, I3_m, I3_n, I3_l, I3_lt, I3_le, I3_e, I3_dv, I3_rm, I3_mx, I3_mn, I3_ab, cI, bI_0, bI_1, rZ_b, up_same, up_row, up_col, xr_some, LQ_r, LQ_l, Int.sub_self, Int.add_zero, Int.zero_add, Int.sub_zero, Int.neg_neg, not_true_eq_false, not_false_eq_true, Int.add_sub_cancel, gI_T, pI_T, iO_T, gR_T, aI_T, sI_T, cpI_T, e0, WI_pos, WI_neg]
      by_cases h3 : (i : Int) % 3 = 0
      · have e : ste c i = -c := by unfold ste; rw [if_pos h3]
        simp (disch := first | assumption | omega) only [↓b_hid, bH_some, ↓hid_W, ↓W_ite, WI_t, WI_f, W_some, I3_a, I3_s, I3_m, I3_n, I3_l, I3_lt, I3_le, I3_e, I3_dv, I3_rm, I3_mx, I3_mn, I3_ab, cI, bI_0, bI_1, rZ_b, up_same, up_row, up_col, xr_some, LQ_r, LQ_l, Int.sub_self, Int.add_zero, Int.zero_add, Int.sub_zero, Int.neg_neg, not_true_eq_false, not_false_eq_true, Int.add_sub_cancel, gI_T, pI_T, iO_T, gR_T, aI_T, sI_T, cpI_T, WI_pos, WI_neg]
        rw [← e]; exact key
      · by_cases h4 : (i : Int) % 3 = 1
        · have e : ste c i = 0 := by unfold ste; rw [if_neg h3, if_pos h4]
          simp (disch := first | assumption | omega) only [↓b_hid, bH_some, ↓hid_W, ↓W_ite, WI_t, WI_f, W_some, I3_a, I3_s, I3_m, I3_n, I3_l, I3_lt, I3_le, I3_e, I3_dv, I3_rm, I3_mx, I3_mn, I3_ab, cI, bI_0, bI_1, rZ_b, up_same, up_row, up_col, xr_some, LQ_r, LQ_l, Int.sub_self, Int.add_zero, Int.zero_add, Int.sub_zero, Int.neg_neg, not_true_eq_false, not_false_eq_true, Int.add_sub_cancel, gI_T, pI_T, iO_T, gR_T, aI_T, sI_T, cpI_T, WI_pos, WI_neg]
          rw [← e]; exact key
        · have e : ste c i = c := by unfold ste; rw [if_neg h3, if_neg h4]
          simp (disch := first | assumption | omega) only [↓b_hid, bH_some, ↓hid_W, ↓W_ite, WI_t, WI_f, W_some, I3_a, I3_s, I3_m, I3_n, I3_l, I3_lt, I3_le, I3_e, I3_dv, I3_rm, I3_mx, I3_mn, I3_ab, cI, bI_0, bI_1, rZ_b, up_same, up_row, up_col, xr_some, LQ_r, LQ_l, Int.sub_self, Int.add_zero, Int.zero_add, Int.sub_zero, Int.neg_neg, not_true_eq_false, not_false_eq_true, Int.add_sub_cancel, gI_T, pI_T, iO_T, gR_T, aI_T, sI_T, cpI_T, WI_pos, WI_neg]
          rw [e] at key; exact key
    · have e : (i : Int) = z t 1 := by omega
      have e2 : (z t 1).toNat = i := by omega
      simp (disch := first | assumption | omega) only [↓b_hid, bH_some, ↓hid_W, ↓W_ite, WI_t, WI_f, W_some, I3_a, I3_s, I3_m, I3_n, I3_l, I3_lt, I3_le, I3_e, I3_dv, I3_rm, I3_mx, I3_mn, I3_ab, cI, bI_0, bI_1, rZ_b, up_same, up_row, up_col, xr_some, LQ_r, LQ_l, Int.sub_self, Int.add_zero, Int.zero_add, Int.sub_zero, Int.neg_neg, not_true_eq_false, not_false_eq_true, Int.add_sub_cancel, gI_T, pI_T, iO_T, gR_T, aI_T, sI_T, cpI_T, e0, f_X10_stretch_102, WI_pos, WI_neg]
      rw [e2, e]
  · have : stz z t c 0 = z := by funext k j; unfold stz; rw [if_neg (by omega)]
    rw [show ((0 : Nat) : Int) = 0 from rfl, this, stc]; simp only [I3_l]
end
