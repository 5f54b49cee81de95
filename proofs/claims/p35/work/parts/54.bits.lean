/-! Bits of codes, over Int. -/
section
variable {p : Nat → Nat} {z l : Nat → Int → Int}
def pw (k : Int) : Int := 2 ^ k.toNat
def bt (c k : Int) : Int := c / pw k % 2
theorem k17 {k : Int} (h0 : 0 ≤ k) (h1 : k ≤ 16) : k = 0 ∨ k = 1 ∨ k = 2 ∨ k = 3 ∨ k = 4 ∨ k = 5 ∨ k = 6 ∨ k = 7 ∨ k = 8 ∨ k = 9 ∨ k = 10 ∨ k = 11 ∨ k = 12 ∨ k = 13 ∨ k = 14 ∨ k = 15 ∨ k = 16 := by omega
theorem pw_r {k : Int} (h0 : 0 ≤ k) (h1 : k ≤ 16) : 1 ≤ pw k ∧ pw k ≤ 65536 := by
  rcases k17 h0 h1 with rfl | rfl | rfl | rfl | rfl | rfl | rfl | rfl | rfl | rfl | rfl | rfl | rfl | rfl | rfl | rfl | rfl <;> decide
theorem pw_pos (k : Int) : 0 < pw k := by unfold pw; exact Int.pow_pos (by decide)
theorem bt_r (c k : Int) : bt c k = 0 ∨ bt c k = 1 := by unfold bt; omega
theorem shl1 {k : Int} (h0 : 0 ≤ k) (h1 : k ≤ 16) : (I3 1 <<< (I3 k &&& I3 31)) = I3 (pw k) := by
  rcases k17 h0 h1 with rfl | rfl | rfl | rfl | rfl | rfl | rfl | rfl | rfl | rfl | rfl | rfl | rfl | rfl | rfl | rfl | rfl <;> decide
theorem nat_and_pw (n k : Nat) : n &&& 2 ^ k = (n / 2 ^ k % 2) * 2 ^ k := by
  apply Nat.eq_of_testBit_eq
  intro i
  rw [Nat.testBit_and, Nat.testBit_two_pow]
  have hb : n.testBit k = decide (n / 2 ^ k % 2 = 1) := Nat.testBit_eq_decide_div_mod_eq
  rcases Nat.mod_two_eq_zero_or_one (n / 2 ^ k) with h | h
  · rw [h, Nat.zero_mul, Nat.zero_testBit]
    by_cases hi : k = i
    · subst hi; rw [hb, h]; rfl
    · simp [hi]
  · rw [h, Nat.one_mul, Nat.testBit_two_pow]
    by_cases hi : k = i
    · subst hi; rw [hb, h]; rfl
    · simp [hi]
theorem I3_N (n : Nat) : I3 (n : Int) = Int32.ofNat n := Int32.ofInt_eq_ofNat
theorem N_and (a b : Nat) : Int32.ofNat a &&& Int32.ofNat b = Int32.ofNat (a &&& b) := by
  apply Int32.toBitVec_inj.mp
  show BitVec.ofNat 32 a &&& BitVec.ofNat 32 b = BitVec.ofNat 32 (a &&& b)
  rw [BitVec.ofNat_and]
theorem and_pw {c : Int} (k : Int) (hc : 0 ≤ c) : I3 c &&& I3 (pw k) = I3 (bt c k * pw k) := by
  obtain ⟨n, rfl⟩ : ∃ n : Nat, c = n := ⟨c.toNat, by omega⟩
  have e : pw k = ((2 ^ k.toNat : Nat) : Int) := by unfold pw; simp
  have e2 : bt n k = ((n / 2 ^ k.toNat % 2 : Nat) : Int) := by unfold bt; rw [e]; simp
  rw [e2, e, I3_N, I3_N, N_and, nat_and_pw, ← I3_N]
  simp
theorem and_xor (x y : Int32) : x &&& (y ^^^ I3 (-1)) = x - (x &&& y) := by
  apply Int32.toBitVec_inj.mp
  have e : (I3 (-1)).toBitVec = BitVec.allOnes 32 := by decide
  rw [Int32.toBitVec_and, Int32.toBitVec_xor, e, BitVec.xor_allOnes, Int32.toBitVec_sub, Int32.toBitVec_and]
  have h : (x.toBitVec &&& ~~~y.toBitVec) + (x.toBitVec &&& y.toBitVec) = x.toBitVec := by
    rw [BitVec.add_eq_or_of_and_eq_zero]
    · ext i hi; simp; cases x.toBitVec[i] <;> cases y.toBitVec[i] <;> rfl
    · ext i hi; simp; intro _ h _ ; simp [h]
  exact BitVec.eq_sub_iff_add_eq.mpr h
theorem and_not_pw {c : Int} (k : Int) (hc : 0 ≤ c) : I3 c &&& (I3 (pw k) ^^^ I3 (-1)) = I3 (c - bt c k * pw k) := by
  rw [and_xor, and_pw k hc, I3_s]
theorem or_pw {c k : Int} (hc : 0 ≤ c) (h : bt c k = 0) : I3 c ||| I3 (pw k) = I3 (c + pw k) := by
  have h1 := and_pw k hc
  rw [h, Int.zero_mul] at h1
  rw [← I3_a]
  apply Int32.toBitVec_inj.mp
  rw [Int32.toBitVec_or, Int32.toBitVec_add, BitVec.add_eq_or_of_and_eq_zero]
  rw [← Int32.toBitVec_and, h1]; rfl
/-- where a bit stands -/
def plc (f : Int → Int) (k : Int) : Int := if f 7 = 1 then k else f 6 - 1 - k
def idn (f : Int → Int) (c : Int) : Int := if f 8 = 2 then c - bt c (plc f 0) * pw (plc f 0) else c
theorem plc_r {f : Int → Int} {k : Int} (h0 : 0 ≤ k) (h1 : k < f 6) : 0 ≤ plc f k ∧ plc f k < f 6 := by unfold plc; split <;> omega
theorem bt_le {c k : Int} (hc : 0 ≤ c) : 0 ≤ bt c k * pw k ∧ bt c k * pw k ≤ c := by
  have hp := pw_pos k
  rcases bt_r c k with h | h
  · rw [h]; omega
  · rw [h, Int.one_mul]
    refine ⟨by omega, ?_⟩
    unfold bt at h
    have h2 : 1 ≤ c / pw k := by
      have := Int.ediv_nonneg hc (show 0 ≤ pw k by omega)
      omega
    have := (Int.le_ediv_iff_mul_le hp).mp h2
    omega
theorem idn_r {f : Int → Int} {c : Int} (hc : 0 ≤ c) : 0 ≤ idn f c ∧ idn f c ≤ c := by
  unfold idn; have := bt_le (k := plc f 0) hc; split <;> omega
theorem g_hasC {q : Nat} {c : Int} (hq : isP q) (h0 : 0 ≤ z q 6) (h1 : z q 6 ≤ 16) (hc : -2147483648 ≤ c) (hc' : c < 2147483648) : f_X6_hasCode q (I3 c) (M p z l) = some (I3 (bI (0 ≤ c ∧ c < pw (z q 6))), M p z l) := by
  have hp := pw_r h0 h1
  apply W_eq; unfold f_X6_hasCode; simp (disch := first | assumption | omega) only [↓b_hid, bH_some, ↓hid_W, ↓W_ite, WI_t, WI_f, W_some, I3_a, I3_s, I3_m, I3_n, I3_l, I3_lt, I3_le, I3_e, I3_dv, I3_rm, I3_mx, I3_mn, I3_ab, cI, bI_0, bI_1, rZ_b, up_same, up_row, up_col, xr_some, LQ_r, LQ_l, Int.sub_self, Int.add_zero, Int.zero_add, Int.sub_zero, Int.neg_neg, not_true_eq_false, not_false_eq_true, Int.add_sub_cancel, gI_P, pI_P, iO_P]
  refine WI_i (fun h => ?_) (fun h => ?_)
  · simp (disch := first | assumption | omega) only [↓b_hid, bH_some, ↓hid_W, ↓W_ite, WI_t, WI_f, W_some, I3_a, I3_s, I3_m, I3_n, I3_l, I3_lt, I3_le, I3_e, I3_dv, I3_rm, I3_mx, I3_mn, I3_ab, cI, bI_0, bI_1, rZ_b, up_same, up_row, up_col, xr_some, LQ_r, LQ_l, Int.sub_self, Int.add_zero, Int.zero_add, Int.sub_zero, Int.neg_neg, not_true_eq_false, not_false_eq_true, Int.add_sub_cancel]; rw [bI_f (by omega)]
  · simp (disch := first | assumption | omega) only [↓b_hid, bH_some, ↓hid_W, ↓W_ite, WI_t, WI_f, W_some, I3_a, I3_s, I3_m, I3_n, I3_l, I3_lt, I3_le, I3_e, I3_dv, I3_rm, I3_mx, I3_mn, I3_ab, cI, bI_0, bI_1, rZ_b, up_same, up_row, up_col, xr_some, LQ_r, LQ_l, Int.sub_self, Int.add_zero, Int.zero_add, Int.sub_zero, Int.neg_neg, not_true_eq_false, not_false_eq_true, Int.add_sub_cancel, gI_P, pI_P, iO_P, shl1]
    refine WI_i (fun h => ?_) (fun h => ?_)
    · simp (disch := first | assumption | omega) only [↓b_hid, bH_some, ↓hid_W, ↓W_ite, WI_t, WI_f, W_some, I3_a, I3_s, I3_m, I3_n, I3_l, I3_lt, I3_le, I3_e, I3_dv, I3_rm, I3_mx, I3_mn, I3_ab, cI, bI_0, bI_1, rZ_b, up_same, up_row, up_col, xr_some, LQ_r, LQ_l, Int.sub_self, Int.add_zero, Int.zero_add, Int.sub_zero, Int.neg_neg, not_true_eq_false, not_false_eq_true, Int.add_sub_cancel]; rw [bI_f (by omega)]
    · simp (disch := first | assumption | omega) only [↓b_hid, bH_some, ↓hid_W, ↓W_ite, WI_t, WI_f, W_some, I3_a, I3_s, I3_m, I3_n, I3_l, I3_lt, I3_le, I3_e, I3_dv, I3_rm, I3_mx, I3_mn, I3_ab, cI, bI_0, bI_1, rZ_b, up_same, up_row, up_col, xr_some, LQ_r, LQ_l, Int.sub_self, Int.add_zero, Int.zero_add, Int.sub_zero, Int.neg_neg, not_true_eq_false, not_false_eq_true, Int.add_sub_cancel]; rw [bI_t (by omega)]
theorem g_mask {q : Nat} {k : Int} (hq : isP q) (h0 : 0 ≤ k) (h1 : k < z q 6) (h6 : z q 6 ≤ 16) (h7 : 0 ≤ z q 7 ∧ z q 7 ≤ 1) : f_X6_maskAt q (I3 k) (M p z l) = some (I3 (pw (plc (z q) k)), M p z l) := by
  apply W_eq; unfold f_X6_maskAt; simp (disch := first | assumption | omega) only [↓b_hid, bH_some, ↓hid_W, ↓W_ite, WI_t, WI_f, W_some, I3_a, I3_s, I3_m, I3_n, I3_l, I3_lt, I3_le, I3_e, I3_dv, I3_rm, I3_mx, I3_mn, I3_ab, cI, bI_0, bI_1, rZ_b, up_same, up_row, up_col, xr_some, LQ_r, LQ_l, Int.sub_self, Int.add_zero, Int.zero_add, Int.sub_zero, Int.neg_neg, not_true_eq_false, not_false_eq_true, Int.add_sub_cancel, gI_P, pI_P, iO_P]
  refine WI_i (fun h => ?_) (fun h => ?_)
  · simp (disch := first | assumption | omega) only [↓b_hid, bH_some, ↓hid_W, ↓W_ite, WI_t, WI_f, W_some, I3_a, I3_s, I3_m, I3_n, I3_l, I3_lt, I3_le, I3_e, I3_dv, I3_rm, I3_mx, I3_mn, I3_ab, cI, bI_0, bI_1, rZ_b, up_same, up_row, up_col, xr_some, LQ_r, LQ_l, Int.sub_self, Int.add_zero, Int.zero_add, Int.sub_zero, Int.neg_neg, not_true_eq_false, not_false_eq_true, Int.add_sub_cancel, shl1]; unfold plc; rw [if_pos h]
  · simp (disch := first | assumption | omega) only [↓b_hid, bH_some, ↓hid_W, ↓W_ite, WI_t, WI_f, W_some, I3_a, I3_s, I3_m, I3_n, I3_l, I3_lt, I3_le, I3_e, I3_dv, I3_rm, I3_mx, I3_mn, I3_ab, cI, bI_0, bI_1, rZ_b, up_same, up_row, up_col, xr_some, LQ_r, LQ_l, Int.sub_self, Int.add_zero, Int.zero_add, Int.sub_zero, Int.neg_neg, not_true_eq_false, not_false_eq_true, Int.add_sub_cancel, gI_P, pI_P, iO_P, shl1]; unfold plc; rw [if_neg h]
theorem g_idn {q : Nat} {c : Int} (hq : isP q) (hc : 0 ≤ c) (h6 : 1 ≤ z q 6 ∧ z q 6 ≤ 16) (h7 : 0 ≤ z q 7 ∧ z q 7 ≤ 1) (h8 : 0 ≤ z q 8 ∧ z q 8 ≤ 2) : f_X6_identityOf q (I3 c) (M p z l) = some (I3 (idn (z q) c), M p z l) := by
  apply W_eq; unfold f_X6_identityOf; simp (disch := first | assumption | omega) only [↓b_hid, bH_some, ↓hid_W, ↓W_ite, WI_t, WI_f, W_some, I3_a, I3_s, I3_m, I3_n, I3_l, I3_lt, I3_le, I3_e, I3_dv, I3_rm, I3_mx, I3_mn, I3_ab, cI, bI_0, bI_1, rZ_b, up_same, up_row, up_col, xr_some, LQ_r, LQ_l, Int.sub_self, Int.add_zero, Int.zero_add, Int.sub_zero, Int.neg_neg, not_true_eq_false, not_false_eq_true, Int.add_sub_cancel, gI_P, pI_P, iO_P]
  refine WI_i (fun h => ?_) (fun h => ?_)
  · simp (disch := first | assumption | omega) only [↓b_hid, bH_some, ↓hid_W, ↓W_ite, WI_t, WI_f, W_some, I3_a, I3_s, I3_m, I3_n, I3_l, I3_lt, I3_le, I3_e, I3_dv, I3_rm, I3_mx, I3_mn, I3_ab, cI, bI_0, bI_1, rZ_b, up_same, up_row, up_col, xr_some, LQ_r, LQ_l, Int.sub_self, Int.add_zero, Int.zero_add, Int.sub_zero, Int.neg_neg, not_true_eq_false, not_false_eq_true, Int.add_sub_cancel, gI_P, pI_P, iO_P, g_mask, and_not_pw]; unfold idn; rw [if_pos h]
  · simp (disch := first | assumption | omega) only [↓b_hid, bH_some, ↓hid_W, ↓W_ite, WI_t, WI_f, W_some, I3_a, I3_s, I3_m, I3_n, I3_l, I3_lt, I3_le, I3_e, I3_dv, I3_rm, I3_mx, I3_mn, I3_ab, cI, bI_0, bI_1, rZ_b, up_same, up_row, up_col, xr_some, LQ_r, LQ_l, Int.sub_self, Int.add_zero, Int.zero_add, Int.sub_zero, Int.neg_neg, not_true_eq_false, not_false_eq_true, Int.add_sub_cancel]; unfold idn; rw [if_neg h]
theorem idn_congr {f g : Int → Int} (h : ∀ j : Int, 0 ≤ j → j < 9 → f j = g j) (c : Int) : idn f c = idn g c := by
  unfold idn plc; rw [h 8 (by omega) (by omega), h 7 (by omega) (by omega), h 6 (by omega) (by omega)]
end
