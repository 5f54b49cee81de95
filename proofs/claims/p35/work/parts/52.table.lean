/-! The class's protocols, tables and states: straight methods and copies. -/
section
variable {p : Nat → Nat} {z l : Nat → Int → Int}
def shapeZ (z : Nat → Int → Int) (q : Nat) (k b o r : Int) : Nat → Int → Int := up (up (up (up z q 0 k) q 6 b) q 7 o) q 8 r
def lensZ (z : Nat → Int → Int) (q : Nat) (h s a b c : Int) : Nat → Int → Int := up (up (up (up (up z q 1 h) q 2 s) q 3 a) q 4 b) q 5 c
theorem g_useShape {q : Nat} {k b o r : Int} (hq : isP q) : f_X6_useShape q (I3 k) (I3 b) (I3 o) (I3 r) (M p z l) = some (M p (shapeZ z q k b o r) l) := by
  apply W_eq; unfold f_X6_useShape; simp (disch := first | assumption | omega) only [↓b_hid, bH_some, ↓hid_W, ↓W_ite, WI_t, WI_f, W_some, I3_a, I3_s, I3_m, I3_n, I3_l, I3_lt, I3_le, I3_e, I3_dv, I3_rm, I3_mx, I3_mn, I3_ab, cI, bI_0, bI_1, rZ_b, up_same, up_row, up_col, xr_some, LQ_r, LQ_l, Int.sub_self, Int.add_zero, Int.zero_add, Int.sub_zero, Int.neg_neg, not_true_eq_false, not_false_eq_true, Int.add_sub_cancel, gI_P, pI_P, iO_P]; rfl
theorem g_useLengths {q : Nat} {h s a b c : Int} (hq : isP q) : f_X6_useLengths q (I3 h) (I3 s) (I3 a) (I3 b) (I3 c) (M p z l) = some (M p (lensZ z q h s a b c) l) := by
  apply W_eq; unfold f_X6_useLengths; simp (disch := first | assumption | omega) only [↓b_hid, bH_some, ↓hid_W, ↓W_ite, WI_t, WI_f, W_some, I3_a, I3_s, I3_m, I3_n, I3_l, I3_lt, I3_le, I3_e, I3_dv, I3_rm, I3_mx, I3_mn, I3_ab, cI, bI_0, bI_1, rZ_b, up_same, up_row, up_col, xr_some, LQ_r, LQ_l, Int.sub_self, Int.add_zero, Int.zero_add, Int.sub_zero, Int.neg_neg, not_true_eq_false, not_false_eq_true, Int.add_sub_cancel, gI_P, pI_P, iO_P]; rfl
theorem shapeZ_row {k q : Nat} (h : k ≠ q) (z : Nat → Int → Int) (a b c d : Int) : shapeZ z q a b c d k = z k := by
  unfold shapeZ; rw [up_row h, up_row h, up_row h, up_row h]
theorem lensZ_row {k q : Nat} (h : k ≠ q) (z : Nat → Int → Int) (a b c d e : Int) : lensZ z q a b c d e k = z k := by
  unfold lensZ; rw [up_row h, up_row h, up_row h, up_row h, up_row h]
/-- the protocol at q, whole -/
def pcZ (z : Nat → Int → Int) (a b : Nat) : Nat → Int → Int := fun k j => if k = a ∧ 0 ≤ j ∧ j < 9 then z b j else z k j
theorem g_pcopy {a b : Nat} (ha : isP a) (hb : isP b) (hab : b ≠ a) : f_X6_copyFrom a b (M p z l) = some (M p (pcZ z a b) l) := by
  apply W_eq; unfold f_X6_copyFrom
  have e : ∀ u v w x : Int, shapeZ z a u v w x b = z b := fun u v w x => shapeZ_row hab z u v w x
  simp (disch := first | assumption | omega) only [↓b_hid, bH_some, ↓hid_W, ↓W_ite, WI_t, WI_f, W_some, I3_a, I3_s, I3_m, I3_n, I3_l, I3_lt, I3_le, I3_e, I3_dv, I3_rm, I3_mx, I3_mn, I3_ab, cI, bI_0, bI_1, rZ_b, up_same, up_row, up_col, xr_some, LQ_r, LQ_l, Int.sub_self, Int.add_zero, Int.zero_add, Int.sub_zero, Int.neg_neg, not_true_eq_false, not_false_eq_true, Int.add_sub_cancel, gI_P, pI_P, iO_P, g_useShape, g_useLengths, e]
  congr 1
  funext k j
  unfold lensZ shapeZ up pcZ
  by_cases hk : k = a
  · subst hk
    by_cases hj : 0 ≤ j ∧ j < 9
    · have h2 : (if k = k ∧ 0 ≤ j ∧ j < 9 then z b j else z k j) = z b j := if_pos ⟨rfl, hj⟩
      rw [h2]
      have : j = 0 ∨ j = 1 ∨ j = 2 ∨ j = 3 ∨ j = 4 ∨ j = 5 ∨ j = 6 ∨ j = 7 ∨ j = 8 := by omega
      rcases this with rfl | rfl | rfl | rfl | rfl | rfl | rfl | rfl | rfl <;> simp
    · rw [if_neg (by omega : ¬(k = k ∧ 0 ≤ j ∧ j < 9))]
      rw [if_neg (by omega), if_neg (by omega), if_neg (by omega), if_neg (by omega), if_neg (by omega), if_neg (by omega), if_neg (by omega), if_neg (by omega), if_neg (by omega)]
  · simp [hk]
theorem g_pfull {t : Nat} (ht : isTb t) (h0 : 0 ≤ z t 1) (h1 : z t 1 ≤ 6) : f_X8_protocolsFull t (M p z l) = some (I3 (bI (z t 1 = 6)), M p z l) := by
  apply W_eq; unfold f_X8_protocolsFull; simp (disch := first | assumption | omega) only [↓b_hid, bH_some, ↓hid_W, ↓W_ite, WI_t, WI_f, W_some, I3_a, I3_s, I3_m, I3_n, I3_l, I3_lt, I3_le, I3_e, I3_dv, I3_rm, I3_mx, I3_mn, I3_ab, cI, bI_0, bI_1, rZ_b, up_same, up_row, up_col, xr_some, LQ_r, LQ_l, Int.sub_self, Int.add_zero, Int.zero_add, Int.sub_zero, Int.neg_neg, not_true_eq_false, not_false_eq_true, Int.add_sub_cancel, gI_Tb, pI_Tb, iO_Tb, gR_Tb0, gR_Tb2, gR_Tb3, aR_Tb, aI_Tb2, aI_Tb3, sI_Tb2, sI_Tb3, cpI_Tb2, cpI_Tb3]
  refine WI_i (fun h => ?_) (fun h => ?_)
  · simp (disch := first | assumption | omega) only [↓b_hid, bH_some, ↓hid_W, ↓W_ite, WI_t, WI_f, W_some, I3_a, I3_s, I3_m, I3_n, I3_l, I3_lt, I3_le, I3_e, I3_dv, I3_rm, I3_mx, I3_mn, I3_ab, cI, bI_0, bI_1, rZ_b, up_same, up_row, up_col, xr_some, LQ_r, LQ_l, Int.sub_self, Int.add_zero, Int.zero_add, Int.sub_zero, Int.neg_neg, not_true_eq_false, not_false_eq_true, Int.add_sub_cancel]; rw [bI_f (by omega)]
  · simp (disch := first | assumption | omega) only [↓b_hid, bH_some, ↓hid_W, ↓W_ite, WI_t, WI_f, W_some, I3_a, I3_s, I3_m, I3_n, I3_l, I3_lt, I3_le, I3_e, I3_dv, I3_rm, I3_mx, I3_mn, I3_ab, cI, bI_0, bI_1, rZ_b, up_same, up_row, up_col, xr_some, LQ_r, LQ_l, Int.sub_self, Int.add_zero, Int.zero_add, Int.sub_zero, Int.neg_neg, not_true_eq_false, not_false_eq_true, Int.add_sub_cancel]; rw [bI_t (by omega)]
theorem g_bfull {t : Nat} (ht : isTb t) (h0 : 0 ≤ z t 4) (h1 : z t 4 ≤ 12) : f_X8_buttonsFull t (M p z l) = some (I3 (bI (z t 4 = 12)), M p z l) := by
  apply W_eq; unfold f_X8_buttonsFull; simp (disch := first | assumption | omega) only [↓b_hid, bH_some, ↓hid_W, ↓W_ite, WI_t, WI_f, W_some, I3_a, I3_s, I3_m, I3_n, I3_l, I3_lt, I3_le, I3_e, I3_dv, I3_rm, I3_mx, I3_mn, I3_ab, cI, bI_0, bI_1, rZ_b, up_same, up_row, up_col, xr_some, LQ_r, LQ_l, Int.sub_self, Int.add_zero, Int.zero_add, Int.sub_zero, Int.neg_neg, not_true_eq_false, not_false_eq_true, Int.add_sub_cancel, gI_Tb, pI_Tb, iO_Tb, gR_Tb0, gR_Tb2, gR_Tb3, aR_Tb, aI_Tb2, aI_Tb3, sI_Tb2, sI_Tb3, cpI_Tb2, cpI_Tb3]
  refine WI_i (fun h => ?_) (fun h => ?_)
  · simp (disch := first | assumption | omega) only [↓b_hid, bH_some, ↓hid_W, ↓W_ite, WI_t, WI_f, W_some, I3_a, I3_s, I3_m, I3_n, I3_l, I3_lt, I3_le, I3_e, I3_dv, I3_rm, I3_mx, I3_mn, I3_ab, cI, bI_0, bI_1, rZ_b, up_same, up_row, up_col, xr_some, LQ_r, LQ_l, Int.sub_self, Int.add_zero, Int.zero_add, Int.sub_zero, Int.neg_neg, not_true_eq_false, not_false_eq_true, Int.add_sub_cancel]; rw [bI_f (by omega)]
  · simp (disch := first | assumption | omega) only [↓b_hid, bH_some, ↓hid_W, ↓W_ite, WI_t, WI_f, W_some, I3_a, I3_s, I3_m, I3_n, I3_l, I3_lt, I3_le, I3_e, I3_dv, I3_rm, I3_mx, I3_mn, I3_ab, cI, bI_0, bI_1, rZ_b, up_same, up_row, up_col, xr_some, LQ_r, LQ_l, Int.sub_self, Int.add_zero, Int.zero_add, Int.sub_zero, Int.neg_neg, not_true_eq_false, not_false_eq_true, Int.add_sub_cancel]; rw [bI_t (by omega)]
theorem g_hasP {t : Nat} {i : Int} (ht : isTb t) (h0 : 0 ≤ z t 1) (h1 : z t 1 ≤ 6) (hi : -2147483648 ≤ i) (hi' : i < 2147483648) : f_X8_hasProtocol t (I3 i) (M p z l) = some (I3 (bI (0 ≤ i ∧ i < z t 1)), M p z l) := by
  apply W_eq; unfold f_X8_hasProtocol; simp (disch := first | assumption | omega) only [↓b_hid, bH_some, ↓hid_W, ↓W_ite, WI_t, WI_f, W_some, I3_a, I3_s, I3_m, I3_n, I3_l, I3_lt, I3_le, I3_e, I3_dv, I3_rm, I3_mx, I3_mn, I3_ab, cI, bI_0, bI_1, rZ_b, up_same, up_row, up_col, xr_some, LQ_r, LQ_l, Int.sub_self, Int.add_zero, Int.zero_add, Int.sub_zero, Int.neg_neg, not_true_eq_false, not_false_eq_true, Int.add_sub_cancel, gI_Tb, pI_Tb, iO_Tb, gR_Tb0, gR_Tb2, gR_Tb3, aR_Tb, aI_Tb2, aI_Tb3, sI_Tb2, sI_Tb3, cpI_Tb2, cpI_Tb3]
  refine WI_i (fun h => ?_) (fun h => ?_)
  · simp (disch := first | assumption | omega) only [↓b_hid, bH_some, ↓hid_W, ↓W_ite, WI_t, WI_f, W_some, I3_a, I3_s, I3_m, I3_n, I3_l, I3_lt, I3_le, I3_e, I3_dv, I3_rm, I3_mx, I3_mn, I3_ab, cI, bI_0, bI_1, rZ_b, up_same, up_row, up_col, xr_some, LQ_r, LQ_l, Int.sub_self, Int.add_zero, Int.zero_add, Int.sub_zero, Int.neg_neg, not_true_eq_false, not_false_eq_true, Int.add_sub_cancel]; rw [bI_f (by omega)]
  · simp (disch := first | assumption | omega) only [↓b_hid, bH_some, ↓hid_W, ↓W_ite, WI_t, WI_f, W_some, I3_a, I3_s, I3_m, I3_n, I3_l, I3_lt, I3_le, I3_e, I3_dv, I3_rm, I3_mx, I3_mn, I3_ab, cI, bI_0, bI_1, rZ_b, up_same, up_row, up_col, xr_some, LQ_r, LQ_l, Int.sub_self, Int.add_zero, Int.zero_add, Int.sub_zero, Int.neg_neg, not_true_eq_false, not_false_eq_true, Int.add_sub_cancel, gI_Tb, pI_Tb, iO_Tb, gR_Tb0, gR_Tb2, gR_Tb3, aR_Tb, aI_Tb2, aI_Tb3, sI_Tb2, sI_Tb3, cpI_Tb2, cpI_Tb3]
    refine WI_i (fun h => ?_) (fun h => ?_)
    · simp (disch := first | assumption | omega) only [↓b_hid, bH_some, ↓hid_W, ↓W_ite, WI_t, WI_f, W_some, I3_a, I3_s, I3_m, I3_n, I3_l, I3_lt, I3_le, I3_e, I3_dv, I3_rm, I3_mx, I3_mn, I3_ab, cI, bI_0, bI_1, rZ_b, up_same, up_row, up_col, xr_some, LQ_r, LQ_l, Int.sub_self, Int.add_zero, Int.zero_add, Int.sub_zero, Int.neg_neg, not_true_eq_false, not_false_eq_true, Int.add_sub_cancel]; rw [bI_f (by omega)]
    · simp (disch := first | assumption | omega) only [↓b_hid, bH_some, ↓hid_W, ↓W_ite, WI_t, WI_f, W_some, I3_a, I3_s, I3_m, I3_n, I3_l, I3_lt, I3_le, I3_e, I3_dv, I3_rm, I3_mx, I3_mn, I3_ab, cI, bI_0, bI_1, rZ_b, up_same, up_row, up_col, xr_some, LQ_r, LQ_l, Int.sub_self, Int.add_zero, Int.zero_add, Int.sub_zero, Int.neg_neg, not_true_eq_false, not_false_eq_true, Int.add_sub_cancel]; rw [bI_t (by omega)]
theorem g_pAt {t : Nat} {i : Int} (ht : isTb t) (hi : 0 ≤ i) (hi' : i < 6) : f_X8_protocolAt t (I3 i) (M p z l) = some (t + 4 + i.toNat, M p z l) := by
  apply W_eq; unfold f_X8_protocolAt; simp (disch := first | assumption | omega) only [↓b_hid, bH_some, ↓hid_W, ↓W_ite, WI_t, WI_f, W_some, I3_a, I3_s, I3_m, I3_n, I3_l, I3_lt, I3_le, I3_e, I3_dv, I3_rm, I3_mx, I3_mn, I3_ab, cI, bI_0, bI_1, rZ_b, up_same, up_row, up_col, xr_some, LQ_r, LQ_l, Int.sub_self, Int.add_zero, Int.zero_add, Int.sub_zero, Int.neg_neg, not_true_eq_false, not_false_eq_true, Int.add_sub_cancel, gI_Tb, pI_Tb, iO_Tb, gR_Tb0, gR_Tb2, gR_Tb3, aR_Tb, aI_Tb2, aI_Tb3, sI_Tb2, sI_Tb3, cpI_Tb2, cpI_Tb3, WI_pos, WI_neg]
theorem g_newP {t : Nat} {k b o r : Int} (ht : isTb t) (h0 : 0 ≤ z t 1) (h1 : z t 1 < 6) (hk : -2147483648 ≤ k) (hk' : k < 2147483648) : f_X8_newProtocol t (I3 k) (I3 b) (I3 o) (I3 r) (M p z l) = some (I3 (z t 1), M p (up (lensZ (shapeZ z (t + 4 + (z t 1).toNat) k b o r) (t + 4 + (z t 1).toNat) 9000 4500 560 (if k = 2 then 0 else 560) (if k = 2 then 0 else 1690)) t 1 (z t 1 + 1)) l) := by
  have hq : isP (t + 4 + (z t 1).toNat) := isP_T ht (by omega)
  have hn : t ≠ t + 4 + (z t 1).toNat := by omega
  apply W_eq; unfold f_X8_newProtocol
  simp (disch := first | assumption | omega) only [↓b_hid, bH_some, ↓hid_W, ↓W_ite, WI_t, WI_f, W_some, I3_a, I3_s, I3_m, I3_n, I3_l, I3_lt, I3_le, I3_e, I3_dv, I3_rm, I3_mx, I3_mn, I3_ab, cI, bI_0, bI_1, rZ_b, up_same, up_row, up_col, xr_some, LQ_r, LQ_l, Int.sub_self, Int.add_zero, Int.zero_add, Int.sub_zero, Int.neg_neg, not_true_eq_false, not_false_eq_true, Int.add_sub_cancel, gI_Tb, pI_Tb, iO_Tb, gR_Tb0, gR_Tb2, gR_Tb3, aR_Tb, aI_Tb2, aI_Tb3, sI_Tb2, sI_Tb3, cpI_Tb2, cpI_Tb3, g_pAt, iO_P, g_useShape]
  by_cases h : k = 2
  · subst h
    simp (disch := first | assumption | omega) only [↓b_hid, bH_some, ↓hid_W, ↓W_ite, WI_t, WI_f, W_some, I3_a, I3_s, I3_m, I3_n, I3_l, I3_lt, I3_le, I3_e, I3_dv, I3_rm, I3_mx, I3_mn, I3_ab, cI, bI_0, bI_1, rZ_b, up_same, up_row, up_col, xr_some, LQ_r, LQ_l, Int.sub_self, Int.add_zero, Int.zero_add, Int.sub_zero, Int.neg_neg, not_true_eq_false, not_false_eq_true, Int.add_sub_cancel, gI_Tb, pI_Tb, iO_Tb, gR_Tb0, gR_Tb2, gR_Tb3, aR_Tb, aI_Tb2, aI_Tb3, sI_Tb2, sI_Tb3, cpI_Tb2, cpI_Tb3, f_X8_newProtocol_43, f_X8_newProtocol_55, iO_P, g_useLengths, lensZ_row, shapeZ_row, WI_pos, WI_neg]
    rfl
  · have e1 : (if k = 2 then (0 : Int) else 560) = 560 := if_neg h
    have e2 : (if k = 2 then (0 : Int) else 1690) = 1690 := if_neg h
    simp (disch := first | assumption | omega) only [↓b_hid, bH_some, ↓hid_W, ↓W_ite, WI_t, WI_f, W_some, I3_a, I3_s, I3_m, I3_n, I3_l, I3_lt, I3_le, I3_e, I3_dv, I3_rm, I3_mx, I3_mn, I3_ab, cI, bI_0, bI_1, rZ_b, up_same, up_row, up_col, xr_some, LQ_r, LQ_l, Int.sub_self, Int.add_zero, Int.zero_add, Int.sub_zero, Int.neg_neg, not_true_eq_false, not_false_eq_true, Int.add_sub_cancel, gI_Tb, pI_Tb, iO_Tb, gR_Tb0, gR_Tb2, gR_Tb3, aR_Tb, aI_Tb2, aI_Tb3, sI_Tb2, sI_Tb3, cpI_Tb2, cpI_Tb3, f_X8_newProtocol_43, f_X8_newProtocol_55, iO_P, g_useLengths, lensZ_row, shapeZ_row, e1, e2, WI_pos, WI_neg]
theorem g_hasB {t : Nat} {i : Int} (ht : isTb t) (h0 : 0 ≤ z t 4) (h1 : z t 4 ≤ 12) (hi : -2147483648 ≤ i) (hi' : i < 2147483648) : f_X8_hasButton t (I3 i) (M p z l) = some (I3 (bI (0 ≤ i ∧ i < z t 4)), M p z l) := by
  apply W_eq; unfold f_X8_hasButton; simp (disch := first | assumption | omega) only [↓b_hid, bH_some, ↓hid_W, ↓W_ite, WI_t, WI_f, W_some, I3_a, I3_s, I3_m, I3_n, I3_l, I3_lt, I3_le, I3_e, I3_dv, I3_rm, I3_mx, I3_mn, I3_ab, cI, bI_0, bI_1, rZ_b, up_same, up_row, up_col, xr_some, LQ_r, LQ_l, Int.sub_self, Int.add_zero, Int.zero_add, Int.sub_zero, Int.neg_neg, not_true_eq_false, not_false_eq_true, Int.add_sub_cancel, gI_Tb, pI_Tb, iO_Tb, gR_Tb0, gR_Tb2, gR_Tb3, aR_Tb, aI_Tb2, aI_Tb3, sI_Tb2, sI_Tb3, cpI_Tb2, cpI_Tb3]
  refine WI_i (fun h => ?_) (fun h => ?_)
  · simp (disch := first | assumption | omega) only [↓b_hid, bH_some, ↓hid_W, ↓W_ite, WI_t, WI_f, W_some, I3_a, I3_s, I3_m, I3_n, I3_l, I3_lt, I3_le, I3_e, I3_dv, I3_rm, I3_mx, I3_mn, I3_ab, cI, bI_0, bI_1, rZ_b, up_same, up_row, up_col, xr_some, LQ_r, LQ_l, Int.sub_self, Int.add_zero, Int.zero_add, Int.sub_zero, Int.neg_neg, not_true_eq_false, not_false_eq_true, Int.add_sub_cancel]; rw [bI_f (by omega)]
  · simp (disch := first | assumption | omega) only [↓b_hid, bH_some, ↓hid_W, ↓W_ite, WI_t, WI_f, W_some, I3_a, I3_s, I3_m, I3_n, I3_l, I3_lt, I3_le, I3_e, I3_dv, I3_rm, I3_mx, I3_mn, I3_ab, cI, bI_0, bI_1, rZ_b, up_same, up_row, up_col, xr_some, LQ_r, LQ_l, Int.sub_self, Int.add_zero, Int.zero_add, Int.sub_zero, Int.neg_neg, not_true_eq_false, not_false_eq_true, Int.add_sub_cancel, gI_Tb, pI_Tb, iO_Tb, gR_Tb0, gR_Tb2, gR_Tb3, aR_Tb, aI_Tb2, aI_Tb3, sI_Tb2, sI_Tb3, cpI_Tb2, cpI_Tb3]
    refine WI_i (fun h => ?_) (fun h => ?_)
    · simp (disch := first | assumption | omega) only [↓b_hid, bH_some, ↓hid_W, ↓W_ite, WI_t, WI_f, W_some, I3_a, I3_s, I3_m, I3_n, I3_l, I3_lt, I3_le, I3_e, I3_dv, I3_rm, I3_mx, I3_mn, I3_ab, cI, bI_0, bI_1, rZ_b, up_same, up_row, up_col, xr_some, LQ_r, LQ_l, Int.sub_self, Int.add_zero, Int.zero_add, Int.sub_zero, Int.neg_neg, not_true_eq_false, not_false_eq_true, Int.add_sub_cancel]; rw [bI_f (by omega)]
    · simp (disch := first | assumption | omega) only [↓b_hid, bH_some, ↓hid_W, ↓W_ite, WI_t, WI_f, W_some, I3_a, I3_s, I3_m, I3_n, I3_l, I3_lt, I3_le, I3_e, I3_dv, I3_rm, I3_mx, I3_mn, I3_ab, cI, bI_0, bI_1, rZ_b, up_same, up_row, up_col, xr_some, LQ_r, LQ_l, Int.sub_self, Int.add_zero, Int.zero_add, Int.sub_zero, Int.neg_neg, not_true_eq_false, not_false_eq_true, Int.add_sub_cancel, WI_pos, WI_neg]; rw [bI_t (by omega)]
theorem g_pOfB {t : Nat} {i : Int} (ht : isTb t) (h0 : 0 ≤ z t 4) (h1 : z t 4 ≤ 12) (hi : 0 ≤ i) (hi' : i < z t 4) : f_X8_protocolOfButton t (I3 i) (M p z l) = some (I3 (z (t + 2) i), M p z l) := by
  apply W_eq; unfold f_X8_protocolOfButton; simp (disch := first | assumption | omega) only [↓b_hid, bH_some, ↓hid_W, ↓W_ite, WI_t, WI_f, W_some, I3_a, I3_s, I3_m, I3_n, I3_l, I3_lt, I3_le, I3_e, I3_dv, I3_rm, I3_mx, I3_mn, I3_ab, cI, bI_0, bI_1, rZ_b, up_same, up_row, up_col, xr_some, LQ_r, LQ_l, Int.sub_self, Int.add_zero, Int.zero_add, Int.sub_zero, Int.neg_neg, not_true_eq_false, not_false_eq_true, Int.add_sub_cancel, gI_Tb, pI_Tb, iO_Tb, gR_Tb0, gR_Tb2, gR_Tb3, aR_Tb, aI_Tb2, aI_Tb3, sI_Tb2, sI_Tb3, cpI_Tb2, cpI_Tb3, g_hasB, bI_t, WI_pos, WI_neg]
theorem g_iOfB {t : Nat} {i : Int} (ht : isTb t) (h0 : 0 ≤ z t 4) (h1 : z t 4 ≤ 12) (hi : 0 ≤ i) (hi' : i < z t 4) : f_X8_identityOfButton t (I3 i) (M p z l) = some (I3 (z (t + 3) i), M p z l) := by
  apply W_eq; unfold f_X8_identityOfButton; simp (disch := first | assumption | omega) only [↓b_hid, bH_some, ↓hid_W, ↓W_ite, WI_t, WI_f, W_some, I3_a, I3_s, I3_m, I3_n, I3_l, I3_lt, I3_le, I3_e, I3_dv, I3_rm, I3_mx, I3_mn, I3_ab, cI, bI_0, bI_1, rZ_b, up_same, up_row, up_col, xr_some, LQ_r, LQ_l, Int.sub_self, Int.add_zero, Int.zero_add, Int.sub_zero, Int.neg_neg, not_true_eq_false, not_false_eq_true, Int.add_sub_cancel, gI_Tb, pI_Tb, iO_Tb, gR_Tb0, gR_Tb2, gR_Tb3, aR_Tb, aI_Tb2, aI_Tb3, sI_Tb2, sI_Tb3, cpI_Tb2, cpI_Tb3, g_hasB, bI_t, WI_pos, WI_neg]
/-- the first button, none -/
def fB (P I : Int → Int) (x y : Int) : Nat → Int → Int
  | 0, _ => -9
  | n + 1, i => if P i = x ∧ I i = y then i else fB P I x y n (i + 1)
theorem fB_r (P I : Int → Int) (x y : Int) : ∀ (n : Nat) (i : Int), 0 ≤ i → fB P I x y n i = -9 ∨ i ≤ fB P I x y n i ∧ fB P I x y n i < i + n
  | 0, i, _ => Or.inl rfl
  | n + 1, i, h => by
    unfold fB; split
    · omega
    · rcases fB_r P I x y n (i + 1) (by omega) with h | h
      · exact Or.inl h
      · omega
theorem fB_congr {P I P' I' : Int → Int} {x y : Int} : ∀ (n : Nat) (i : Int), (∀ k, i ≤ k → k < i + n → P k = P' k ∧ I k = I' k) → fB P I x y n i = fB P' I' x y n i
  | 0, i, _ => rfl
  | n + 1, i, h => by
    unfold fB
    obtain ⟨h1, h2⟩ := h i (by omega) (by omega)
    rw [h1, h2, fB_congr n (i + 1) (fun k h3 h4 => h k (by omega) (by omega))]
theorem g_findB {t : Nat} {x y : Int} (ht : isTb t) (h0 : 0 ≤ z t 4) (h1 : z t 4 ≤ 12) (hx : -2147483648 ≤ x) (hx' : x < 2147483648) (hy : -2147483648 ≤ y) (hy' : y < 2147483648) (hd : ∀ i, 0 ≤ i → i < z t 4 → 0 ≤ z (t + 2) i ∧ z (t + 2) i < 6 ∧ 0 ≤ z (t + 3) i ∧ z (t + 3) i < 65536) : f_X8_findButton t (I3 x) (I3 y) (M p z l) = some (I3 (fB (z (t + 2)) (z (t + 3)) x y (z t 4).toNat 0), M p z l) := by
  apply W_eq
  unfold f_X8_findButton f_X8_findButton_2
  refine lp_W (fun n s => ∃ i : Int, s = (t, I3 x, I3 y, I3 i, M p z l) ∧ 0 ≤ i ∧ i ≤ z t 4 ∧ n = (z t 4 - i).toNat ∧ fB (z (t + 2)) (z (t + 3)) x y (z t 4).toNat 0 = fB (z (t + 2)) (z (t + 3)) x y n i) (fun n s hs => ?_) ⟨0, rfl, by omega, h0, rfl, by rw [Int.sub_zero]⟩
  obtain ⟨i, rfl, hi0, hi1, hn, hf⟩ := hs
  unfold f_X8_findButton_2_b
  by_cases hi : i < z t 4
  · obtain ⟨a1, a2, a3, a4⟩ := hd i hi0 hi
    obtain ⟨m, rfl⟩ : ∃ m, n = m + 1 := ⟨n - 1, by omega⟩
    simp (disch := first | assumption | omega) only [↓b_hid, bH_some, ↓hid_W, ↓W_ite, WI_t, WI_f, W_some, I3_a, I3_s, I3_m, I3_n, I3_l, I3_lt, I3_le, I3_e, I3_dv, I3_rm, I3_mx, I3_mn, I3_ab, cI, bI_0, bI_1, rZ_b, up_same, up_row, up_col, xr_some, LQ_r, LQ_l, Int.sub_self, Int.add_zero, Int.zero_add, Int.sub_zero, Int.neg_neg, not_true_eq_false, not_false_eq_true, Int.add_sub_cancel, gI_Tb, pI_Tb, iO_Tb, gR_Tb0, gR_Tb2, gR_Tb3, aR_Tb, aI_Tb2, aI_Tb3, sI_Tb2, sI_Tb3, cpI_Tb2, cpI_Tb3, g_pOfB, WI_pos, WI_neg]
    refine WI_i (fun h => ?_) (fun h => ?_)
    · simp (disch := first | assumption | omega) only [↓b_hid, bH_some, ↓hid_W, ↓W_ite, WI_t, WI_f, W_some, I3_a, I3_s, I3_m, I3_n, I3_l, I3_lt, I3_le, I3_e, I3_dv, I3_rm, I3_mx, I3_mn, I3_ab, cI, bI_0, bI_1, rZ_b, up_same, up_row, up_col, xr_some, LQ_r, LQ_l, Int.sub_self, Int.add_zero, Int.zero_add, Int.sub_zero, Int.neg_neg, not_true_eq_false, not_false_eq_true, Int.add_sub_cancel, gI_Tb, pI_Tb, iO_Tb, gR_Tb0, gR_Tb2, gR_Tb3, aR_Tb, aI_Tb2, aI_Tb3, sI_Tb2, sI_Tb3, cpI_Tb2, cpI_Tb3, g_iOfB]
      refine WI_i (fun h' => ?_) (fun h' => ?_)
      · simp (disch := first | assumption | omega) only [↓b_hid, bH_some, ↓hid_W, ↓W_ite, WI_t, WI_f, W_some, I3_a, I3_s, I3_m, I3_n, I3_l, I3_lt, I3_le, I3_e, I3_dv, I3_rm, I3_mx, I3_mn, I3_ab, cI, bI_0, bI_1, rZ_b, up_same, up_row, up_col, xr_some, LQ_r, LQ_l, Int.sub_self, Int.add_zero, Int.zero_add, Int.sub_zero, Int.neg_neg, not_true_eq_false, not_false_eq_true, Int.add_sub_cancel, f_X8_findButton_28]
        rw [hf, fB, if_pos ⟨h, h'⟩]
      · simp (disch := first | assumption | omega) only [↓b_hid, bH_some, ↓hid_W, ↓W_ite, WI_t, WI_f, W_some, I3_a, I3_s, I3_m, I3_n, I3_l, I3_lt, I3_le, I3_e, I3_dv, I3_rm, I3_mx, I3_mn, I3_ab, cI, bI_0, bI_1, rZ_b, up_same, up_row, up_col, xr_some, LQ_r, LQ_l, Int.sub_self, Int.add_zero, Int.zero_add, Int.sub_zero, Int.neg_neg, not_true_eq_false, not_false_eq_true, Int.add_sub_cancel, f_X8_findButton_30]
        refine ⟨m, by omega, i + 1, rfl, by omega, by omega, by omega, ?_⟩
        rw [hf, fB, if_neg (by omega)]
    · simp (disch := first | assumption | omega) only [↓b_hid, bH_some, ↓hid_W, ↓W_ite, WI_t, WI_f, W_some, I3_a, I3_s, I3_m, I3_n, I3_l, I3_lt, I3_le, I3_e, I3_dv, I3_rm, I3_mx, I3_mn, I3_ab, cI, bI_0, bI_1, rZ_b, up_same, up_row, up_col, xr_some, LQ_r, LQ_l, Int.sub_self, Int.add_zero, Int.zero_add, Int.sub_zero, Int.neg_neg, not_true_eq_false, not_false_eq_true, Int.add_sub_cancel, f_X8_findButton_30]
      refine ⟨m, by omega, i + 1, rfl, by omega, by omega, by omega, ?_⟩
      rw [hf, fB, if_neg (by omega)]
  · have : n = 0 := by omega
    subst this
    simp (disch := first | assumption | omega) only [↓b_hid, bH_some, ↓hid_W, ↓W_ite, WI_t, WI_f, W_some, I3_a, I3_s, I3_m, I3_n, I3_l, I3_lt, I3_le, I3_e, I3_dv, I3_rm, I3_mx, I3_mn, I3_ab, cI, bI_0, bI_1, rZ_b, up_same, up_row, up_col, xr_some, LQ_r, LQ_l, Int.sub_self, Int.add_zero, Int.zero_add, Int.sub_zero, Int.neg_neg, not_true_eq_false, not_false_eq_true, Int.add_sub_cancel, gI_Tb, pI_Tb, iO_Tb, gR_Tb0, gR_Tb2, gR_Tb3, aR_Tb, aI_Tb2, aI_Tb3, sI_Tb2, sI_Tb3, cpI_Tb2, cpI_Tb3, f_X8_findButton_36, WI_pos, WI_neg]
    rw [hf]; rfl
theorem g_newB {t : Nat} {x y : Int} (ht : isTb t) (h0 : 0 ≤ z t 4) (h1 : z t 4 < 12) : f_X8_newButton t (I3 x) (I3 y) (M p z l) = some (I3 (z t 4), M p (up (up (up z t 4 (z t 4 + 1)) (t + 2) (z t 4) x) (t + 3) (z t 4) y) l) := by
  have n1 : t ≠ t + 2 := by omega
  have n2 : t ≠ t + 3 := by omega
  have e : z t 4 + 1 - 1 = z t 4 := by omega
  have hb : f_X8_hasButton t (I3 (z t 4)) (M p (up z t 4 (z t 4 + 1)) l) = some (I3 1, M p (up z t 4 (z t 4 + 1)) l) := by
    rw [g_hasB ht (by rw [up_same]; omega) (by rw [up_same]; omega) (by omega) (by omega), up_same, bI_t (by omega)]
  apply W_eq; unfold f_X8_newButton; simp (disch := first | assumption | omega) only [↓b_hid, bH_some, ↓hid_W, ↓W_ite, WI_t, WI_f, W_some, I3_a, I3_s, I3_m, I3_n, I3_l, I3_lt, I3_le, I3_e, I3_dv, I3_rm, I3_mx, I3_mn, I3_ab, cI, bI_0, bI_1, rZ_b, up_same, up_row, up_col, xr_some, LQ_r, LQ_l, Int.sub_self, Int.add_zero, Int.zero_add, Int.sub_zero, Int.neg_neg, not_true_eq_false, not_false_eq_true, Int.add_sub_cancel, gI_Tb, pI_Tb, iO_Tb, gR_Tb0, gR_Tb2, gR_Tb3, aR_Tb, aI_Tb2, aI_Tb3, sI_Tb2, sI_Tb3, cpI_Tb2, cpI_Tb3, e, hb, f_X8_newButton_47, WI_pos, WI_neg]
-- copies
/-- the protocols of the table a up to i are those of b -/
def ptZ (z : Nat → Int → Int) (a b : Nat) (i : Nat) : Nat → Int → Int := fun k j => if a + 4 ≤ k ∧ k < a + 4 + i ∧ 0 ≤ j ∧ j < 9 then z (b + (k - a)) j else z k j
theorem ptZ_s (z : Nat → Int → Int) {a b i : Nat} (h : i < 6) (hab : a + 10 ≤ b ∨ b + 10 ≤ a) : pcZ (ptZ z a b i) (a + 4 + i) (b + 4 + i) = ptZ z a b (i + 1) := by
  funext k j
  unfold pcZ ptZ
  by_cases hk : k = a + 4 + i ∧ 0 ≤ j ∧ j < 9
  · rw [if_pos hk, if_neg (by omega), if_pos (by omega), show b + (k - a) = b + 4 + i by omega]
  · rw [if_neg hk]
    by_cases h2 : a + 4 ≤ k ∧ k < a + 4 + i ∧ 0 ≤ j ∧ j < 9
    · rw [if_pos h2, if_pos (by omega)]
    · rw [if_neg h2, if_neg (by omega)]
def tbZ (z : Nat → Int → Int) (a b : Nat) : Nat → Int → Int := up (up (cpr (cpr (ptZ z a b 6) (b + 2) (a + 2) 12) (b + 3) (a + 3) 12) a 1 (z b 1)) a 4 (z b 4)
theorem g_tbcopy {a b : Nat} (ha : isTb a) (hb : isTb b) (hab : a + 10 ≤ b ∨ b + 10 ≤ a) : f_X8_copyFrom a b (M p z l) = some (M p (tbZ z a b) l) := by
  apply W_eq
  unfold f_X8_copyFrom f_X8_copyFrom_2
  refine lp_W (fun n s => ∃ i : Nat, s = (a, b, I3 i, M p (ptZ z a b i) l) ∧ i ≤ 6 ∧ n = 6 - i) (fun n s hs => ?_) ⟨0, ?_, by omega, rfl⟩
  · obtain ⟨i, rfl, hi, rfl⟩ := hs
    unfold f_X8_copyFrom_2_b
    by_cases h : i < 6
    · have h1 := isP_T ha h
      have h2 := isP_T hb h
      have h3 : b + 4 + i ≠ a + 4 + i := by omega
      have e := ptZ_s z h hab
      have e4 : (i : Int).toNat = i := Int.toNat_natCast i
      simp (disch := first | assumption | omega) only [↓b_hid, bH_some, ↓hid_W, ↓W_ite, WI_t, WI_f, W_some, I3_a, I3_s, I3_m, I3_n, I3_l, I3_lt, I3_le, I3_e, I3_dv, I3_rm, I3_mx, I3_mn, I3_ab, cI, bI_0, bI_1, rZ_b, up_same, up_row, up_col, xr_some, LQ_r, LQ_l, Int.sub_self, Int.add_zero, Int.zero_add, Int.sub_zero, Int.neg_neg, not_true_eq_false, not_false_eq_true, Int.add_sub_cancel, gI_Tb, pI_Tb, iO_Tb, gR_Tb0, gR_Tb2, gR_Tb3, aR_Tb, aI_Tb2, aI_Tb3, sI_Tb2, sI_Tb3, cpI_Tb2, cpI_Tb3, iO_P, g_pcopy, e, e4, WI_pos, WI_neg]
      exact ⟨6 - (i + 1), by omega, i + 1, rfl, by omega, rfl⟩
    · have : i = 6 := by omega
      subst this
      have n1 : b ≠ a + 2 := by omega
      have n2 : b ≠ a + 3 := by omega
      have n3 : b ≠ a := by omega
      have e6 : ptZ z a b 6 b = z b := by funext j; unfold ptZ; rw [if_neg (by omega)]
      simp (disch := first | assumption | omega) only [↓b_hid, bH_some, ↓hid_W, ↓W_ite, WI_t, WI_f, W_some, I3_a, I3_s, I3_m, I3_n, I3_l, I3_lt, I3_le, I3_e, I3_dv, I3_rm, I3_mx, I3_mn, I3_ab, cI, bI_0, bI_1, rZ_b, up_same, up_row, up_col, xr_some, LQ_r, LQ_l, Int.sub_self, Int.add_zero, Int.zero_add, Int.sub_zero, Int.neg_neg, not_true_eq_false, not_false_eq_true, Int.add_sub_cancel, gI_Tb, pI_Tb, iO_Tb, gR_Tb0, gR_Tb2, gR_Tb3, aR_Tb, aI_Tb2, aI_Tb3, sI_Tb2, sI_Tb3, cpI_Tb2, cpI_Tb3, f_X8_copyFrom_29, cpr_row, e6, WI_pos, WI_neg]
      rfl
  · have : ptZ z a b 0 = z := by funext k j; unfold ptZ; rw [if_neg (by omega)]
    rw [this]; rfl
end
