/-! The class's Decoder. -/
theorem bt_tb (n k : Nat) : bt (n : Int) (k : Int) = ((n.testBit k).toNat : Int) := by
  rw [Nat.toNat_testBit]
  unfold bt pw
  simp
theorem bt_add {c i j : Int} (hc : 0 ≤ c) (hc' : c < 1073741824) (hi : 0 ≤ i) (hi' : i ≤ 16) (hj : 0 ≤ j) (hj' : j ≤ 16) (h : bt c i = 0) (hij : i ≠ j) : bt (c + pw i) j = bt c j := by
  obtain ⟨n, rfl⟩ : ∃ n : Nat, c = n := ⟨c.toNat, by omega⟩
  obtain ⟨a, rfl⟩ : ∃ n : Nat, i = n := ⟨i.toNat, by omega⟩
  obtain ⟨b, rfl⟩ : ∃ n : Nat, j = n := ⟨j.toNat, by omega⟩
  have e : pw (a : Int) = ((2 ^ a : Nat) : Int) := by unfold pw; simp
  have hp : 2 ^ a ≤ 2 ^ 16 := Nat.pow_le_pow_right (by decide) (by omega)
  rw [bt_tb] at h
  have h0 : n.testBit a = false := by
    cases hb : n.testBit a with
    | false => rfl
    | true => rw [hb] at h; simp at h
  rw [e, ← Int.natCast_add, bt_tb, bt_tb]
  congr 1
  congr 1
  have hand : BitVec.ofNat 32 n &&& BitVec.ofNat 32 (2 ^ a) = 0#32 := by
    rw [← BitVec.ofNat_and, nat_and_pw]
    have : n / 2 ^ a % 2 = 0 := by rw [← Nat.toNat_testBit, h0]; rfl
    rw [this, Nat.zero_mul]
  have hs := BitVec.add_eq_or_of_and_eq_zero _ _ hand
  have h1 : (BitVec.ofNat 32 (n + 2 ^ a)).getLsbD b = (BitVec.ofNat 32 n ||| BitVec.ofNat 32 (2 ^ a)).getLsbD b := by rw [← hs, BitVec.ofNat_add]
  rw [BitVec.getLsbD_or, BitVec.getLsbD_ofNat, BitVec.getLsbD_ofNat, BitVec.getLsbD_ofNat, Nat.testBit_two_pow] at h1
  have hb32 : b < 32 := by omega
  have hab : a ≠ b := by omega
  simpa [hb32, hab] using h1
theorem plc_inj {f : Int → Int} {i j : Int} (h : i ≠ j) : plc f i ≠ plc f j := by unfold plc; split <;> omega
/-- later places are still free -/
theorem csum_bt (f b : Int → Int) (hb : ∀ k : Nat, b k = 0 ∨ b k = 1) (h6 : f 6 ≤ 16) : ∀ (n j : Nat), n ≤ j → (j : Int) < f 6 → bt (csum f b n) (plc f j) = 0
  | 0, j, _, _ => by simp [csum, bt]
  | n + 1, j, h, hj => by
    have ih := csum_bt f b hb h6 n j (by omega) hj
    have ih2 := csum_bt f b hb h6 n n (Nat.le_refl n) (by omega)
    have hr := csum_r f b hb h6 n (by omega)
    have p1 := plc_r (f := f) (k := n) (by omega) (by omega)
    have p2 := plc_r (f := f) (k := j) (by omega) (by omega)
    unfold csum
    rcases hb n with h0 | h0
    · rw [h0, Int.zero_mul, Int.add_zero]; exact ih
    · rw [h0, Int.one_mul, bt_add hr.1 (by omega) (by omega) (by omega) (by omega) (by omega) ih2 (plc_inj (by omega))]; exact ih
section
variable {p : Nat → Nat} {z l : Nat → Int → Int}
theorem g_matches {x len tol : Int} {μ : MS} (h0 : 0 ≤ x) (h1 : x ≤ 20000000) (h2 : 0 ≤ len) (h3 : len ≤ 20000000) (h4 : 0 ≤ tol) (h5 : tol ≤ 40) : f_X11_matches (I3 x) (I3 len) (I3 tol) μ = some (I3 (bI (mt x len tol)), μ) := by
  have hm0 : 0 ≤ len * tol := Int.mul_nonneg h2 h4
  have hm1 : len * tol ≤ 20000000 * 40 := Int.mul_le_mul h3 h5 h4 (by omega)
  apply W_eq; unfold f_X11_matches; simp (disch := first | assumption | omega) only [↓b_hid, bH_some, ↓hid_W, ↓W_ite, WI_t, WI_f, W_some, I3_a, I3_s, I3_m, I3_n, I3_l, I3_lt, I3_le, I3_e, I3_dv, I3_rm, I3_mx, I3_mn, I3_ab, cI, bI_0, bI_1, rZ_b, up_same, up_row, up_col, xr_some, LQ_r, LQ_l, Int.sub_self, Int.add_zero, Int.zero_add, Int.sub_zero, Int.neg_neg, not_true_eq_false, not_false_eq_true, Int.add_sub_cancel]
  refine WI_i (fun h => ?_) (fun h => ?_)
  · unfold f_X11_matches_14; simp (disch := first | assumption | omega) only [↓b_hid, bH_some, ↓hid_W, ↓W_ite, WI_t, WI_f, W_some, I3_a, I3_s, I3_m, I3_n, I3_l, I3_lt, I3_le, I3_e, I3_dv, I3_rm, I3_mx, I3_mn, I3_ab, cI, bI_0, bI_1, rZ_b, up_same, up_row, up_col, xr_some, LQ_r, LQ_l, Int.sub_self, Int.add_zero, Int.zero_add, Int.sub_zero, Int.neg_neg, not_true_eq_false, not_false_eq_true, Int.add_sub_cancel]
    refine WI_i (fun h' => ?_) (fun h' => ?_)
    · simp (disch := first | assumption | omega) only [↓b_hid, bH_some, ↓hid_W, ↓W_ite, WI_t, WI_f, W_some, I3_a, I3_s, I3_m, I3_n, I3_l, I3_lt, I3_le, I3_e, I3_dv, I3_rm, I3_mx, I3_mn, I3_ab, cI, bI_0, bI_1, rZ_b, up_same, up_row, up_col, xr_some, LQ_r, LQ_l, Int.sub_self, Int.add_zero, Int.zero_add, Int.sub_zero, Int.neg_neg, not_true_eq_false, not_false_eq_true, Int.add_sub_cancel]; rw [bI_f]; unfold mt; rw [if_neg (by omega)]; omega
    · simp (disch := first | assumption | omega) only [↓b_hid, bH_some, ↓hid_W, ↓W_ite, WI_t, WI_f, W_some, I3_a, I3_s, I3_m, I3_n, I3_l, I3_lt, I3_le, I3_e, I3_dv, I3_rm, I3_mx, I3_mn, I3_ab, cI, bI_0, bI_1, rZ_b, up_same, up_row, up_col, xr_some, LQ_r, LQ_l, Int.sub_self, Int.add_zero, Int.zero_add, Int.sub_zero, Int.neg_neg, not_true_eq_false, not_false_eq_true, Int.add_sub_cancel]; rw [bI_t]; unfold mt; rw [if_neg (by omega)]; omega
  · unfold f_X11_matches_14; simp (disch := first | assumption | omega) only [↓b_hid, bH_some, ↓hid_W, ↓W_ite, WI_t, WI_f, W_some, I3_a, I3_s, I3_m, I3_n, I3_l, I3_lt, I3_le, I3_e, I3_dv, I3_rm, I3_mx, I3_mn, I3_ab, cI, bI_0, bI_1, rZ_b, up_same, up_row, up_col, xr_some, LQ_r, LQ_l, Int.sub_self, Int.add_zero, Int.zero_add, Int.sub_zero, Int.neg_neg, not_true_eq_false, not_false_eq_true, Int.add_sub_cancel]
    refine WI_i (fun h' => ?_) (fun h' => ?_)
    · simp (disch := first | assumption | omega) only [↓b_hid, bH_some, ↓hid_W, ↓W_ite, WI_t, WI_f, W_some, I3_a, I3_s, I3_m, I3_n, I3_l, I3_lt, I3_le, I3_e, I3_dv, I3_rm, I3_mx, I3_mn, I3_ab, cI, bI_0, bI_1, rZ_b, up_same, up_row, up_col, xr_some, LQ_r, LQ_l, Int.sub_self, Int.add_zero, Int.zero_add, Int.sub_zero, Int.neg_neg, not_true_eq_false, not_false_eq_true, Int.add_sub_cancel]; rw [bI_f]; unfold mt; rw [if_pos (by omega)]; omega
    · simp (disch := first | assumption | omega) only [↓b_hid, bH_some, ↓hid_W, ↓W_ite, WI_t, WI_f, W_some, I3_a, I3_s, I3_m, I3_n, I3_l, I3_lt, I3_le, I3_e, I3_dv, I3_rm, I3_mx, I3_mn, I3_ab, cI, bI_0, bI_1, rZ_b, up_same, up_row, up_col, xr_some, LQ_r, LQ_l, Int.sub_self, Int.add_zero, Int.zero_add, Int.sub_zero, Int.neg_neg, not_true_eq_false, not_false_eq_true, Int.add_sub_cancel]; rw [bI_t]; unfold mt; rw [if_pos (by omega)]; omega
def De (z : Nat → Int → Int) (e : Int → Int) (m tol : Int) : Prop := z 40 3 = m ∧ z 40 4 = tol ∧ ∀ i, 0 ≤ i → i < m → z 41 i = e i
/-- durations and tolerance are in range -/
def Eg (e : Int → Int) (m tol : Int) : Prop := (0 ≤ m ∧ m ≤ 35) ∧ (0 ≤ tol ∧ tol ≤ 40) ∧ ∀ i, 0 ≤ i → i < m → 0 ≤ e i ∧ e i ≤ 20000000
theorem g_fits {e : Int → Int} {m tol i len : Int} (hD : De z e m tol) (hE : Eg e m tol) (hi : 0 ≤ i) (hi' : i < m) (h2 : 0 ≤ len) (h3 : len ≤ 20000000) : f_X2_fits 40 (I3 i) (I3 len) (M p z l) = some (I3 (bI (mt (e i) len tol)), M p z l) := by
  obtain ⟨d1, d2, d3⟩ := hD
  obtain ⟨e1, e2, e3⟩ := hE
  have d4 := d3 i hi hi'
  obtain ⟨x0, x1⟩ := e3 i hi hi'
  apply W_eq; unfold f_X2_fits; simp (disch := first | assumption | omega) only [↓b_hid, bH_some, ↓hid_W, ↓W_ite, WI_t, WI_f, W_some, I3_a, I3_s, I3_m, I3_n, I3_l, I3_lt, I3_le, I3_e, I3_dv, I3_rm, I3_mx, I3_mn, I3_ab, cI, bI_0, bI_1, rZ_b, up_same, up_row, up_col, xr_some, LQ_r, LQ_l, Int.sub_self, Int.add_zero, Int.zero_add, Int.sub_zero, Int.neg_neg, not_true_eq_false, not_false_eq_true, Int.add_sub_cancel, gI_40, pI_40, iO_40, gR_40_2, aI_41, sI_41, gR_40_5, d1, d2, d4, g_matches, WI_pos, WI_neg]
  refine WI_i (fun h => ?_) (fun h => ?_)
  · simp (disch := first | assumption | omega) only [↓b_hid, bH_some, ↓hid_W, ↓W_ite, WI_t, WI_f, W_some, I3_a, I3_s, I3_m, I3_n, I3_l, I3_lt, I3_le, I3_e, I3_dv, I3_rm, I3_mx, I3_mn, I3_ab, cI, bI_0, bI_1, rZ_b, up_same, up_row, up_col, xr_some, LQ_r, LQ_l, Int.sub_self, Int.add_zero, Int.zero_add, Int.sub_zero, Int.neg_neg, not_true_eq_false, not_false_eq_true, Int.add_sub_cancel]; rw [bI_f h]
  · simp (disch := first | assumption | omega) only [↓b_hid, bH_some, ↓hid_W, ↓W_ite, WI_t, WI_f, W_some, I3_a, I3_s, I3_m, I3_n, I3_l, I3_lt, I3_le, I3_e, I3_dv, I3_rm, I3_mx, I3_mn, I3_ab, cI, bI_0, bI_1, rZ_b, up_same, up_row, up_col, xr_some, LQ_r, LQ_l, Int.sub_self, Int.add_zero, Int.zero_add, Int.sub_zero, Int.neg_neg, not_true_eq_false, not_false_eq_true, Int.add_sub_cancel]; rw [bI_t (by omega)]
end
