/-! The model reads a text: its tokens. -/
theorem I6_a (a b : Int) : I6 a + I6 b = I6 (a + b) := (Int64.ofInt_add a b).symm
theorem I6_s (a b : Int) : I6 a - I6 b = I6 (a - b) := (Int64.ofInt_sub a b).symm
theorem I6_n (a : Int) : -I6 a = I6 (-a) := (Int64.ofInt_neg a).symm
theorem I6_e {a b : Int} (h0 : -9223372036854775808 ≤ a) (h1 : a < 9223372036854775808) (h2 : -9223372036854775808 ≤ b) (h3 : b < 9223372036854775808) : (I6 a = I6 b) = (a = b) := by
  rw [← Int64.toInt_inj, I6_i h0 h1, I6_i h2 h3]
theorem lg_cases {a b : Int} (h0 : -9223372036854775808 ≤ a) (h1 : a < 9223372036854775808) (h2 : -9223372036854775808 ≤ b) (h3 : b < 9223372036854775808) : (b < a ∧ lg_cmp (I6 a) (I6 b) = I3 1) ∨ (a = b ∧ lg_cmp (I6 a) (I6 b) = I3 0) ∨ (a < b ∧ lg_cmp (I6 a) (I6 b) = I3 (-1)) := by
  have e : (I6 a > I6 b) = (b < a) := by
    show (I6 b < I6 a) = _
    rw [Int64.lt_iff_toInt_lt, I6_i h0 h1, I6_i h2 h3]
  unfold lg_cmp
  by_cases h : b < a
  · rw [if_pos (by rw [e]; exact h)]; exact Or.inl ⟨h, rfl⟩
  · rw [if_neg (by rw [e]; exact h)]
    by_cases h' : a = b
    · rw [if_pos (by rw [I6_e h0 h1 h2 h3]; exact h')]; exact Or.inr (Or.inl ⟨h', rfl⟩)
    · rw [if_neg (by rw [I6_e h0 h1 h2 h3]; exact h')]; exact Or.inr (Or.inr ⟨by omega, by decide⟩)
theorem lg_ge {a b : Int} (h0 : -9223372036854775808 ≤ a) (h1 : a < 9223372036854775808) (h2 : -9223372036854775808 ≤ b) (h3 : b < 9223372036854775808) : (I3 0 ≤ lg_cmp (I6 a) (I6 b)) = (b ≤ a) := by
  rcases lg_cases h0 h1 h2 h3 with ⟨h, e⟩ | ⟨h, e⟩ | ⟨h, e⟩ <;> rw [e, I3_le (by decide) (by decide) (by decide) (by decide)] <;> simp <;> omega
theorem lg_eq {a b : Int} (h0 : -9223372036854775808 ≤ a) (h1 : a < 9223372036854775808) (h2 : -9223372036854775808 ≤ b) (h3 : b < 9223372036854775808) : (lg_cmp (I6 a) (I6 b) = I3 0) = (a = b) := by
  rcases lg_cases h0 h1 h2 h3 with ⟨h, e⟩ | ⟨h, e⟩ | ⟨h, e⟩ <;> rw [e, I3_e (by decide) (by decide) (by decide) (by decide)] <;> simp <;> omega
theorem to32 {a : Int} (h0 : -2147483648 ≤ a) (h1 : a < 2147483648) : (I6 a).toInt32 = I3 a := by
  apply Int32.toInt_inj.mp
  rw [Int64.toInt_toInt32, I6_i (by omega) (by omega), I3_i h0 h1]
  exact Int.bmod_eq_of_le (by omega) (by omega)
theorem and255 {v : Int} (h0 : 0 ≤ v) (h1 : v ≤ 255) : I3 (if v < 128 then v else v - 256) &&& I3 255 = I3 v := by
  have h : ∀ n : Nat, n < 256 → I3 (if (n : Int) < 128 then (n : Int) else (n : Int) - 256) &&& I3 255 = I3 (n : Int) := by decide +kernel
  have h2 := h v.toNat (by omega)
  rw [show ((v.toNat : Nat) : Int) = v by omega] at h2
  exact h2
theorem ruT_s (T : Tx) (k : Int) (f : Nat) (q : Int) : ruT T k (f + 1) q = if q < T.1 ∧ ckT T q = k then ruT T k f (q + 1) else q := rfl
section
variable {p : Nat → Nat} {z l : Nat → Int → Int}
def MtB (z : Nat → Int → Int) (T : Tx) : Prop := z 189 4 = T.1 ∧ ∀ i, 0 ≤ i → i < (T.1 : Int) → z 192 i = if T.2 i < 128 then T.2 i else T.2 i - 256
def FrN (z z' : Nat → Int → Int) : Prop := (∀ k, k ≠ 189 → z' k = z k) ∧ ∀ j, j ≠ 5 → j ≠ 6 → j ≠ 7 → z' 189 j = z 189 j
theorem FrN_t {z z' z'' : Nat → Int → Int} (h : FrN z z') (h' : FrN z' z'') : FrN z z'' := ⟨fun k h1 => (h'.1 k h1).trans (h.1 k h1), fun j a b c => (h'.2 j a b c).trans (h.2 j a b c)⟩
theorem FrN_r (z : Nat → Int → Int) : FrN z z := ⟨fun _ _ => rfl, fun _ _ _ _ => rfl⟩
theorem FrN_up {i v : Int} (hi : i = 5 ∨ i = 6 ∨ i = 7) (z : Nat → Int → Int) : FrN z (up z 189 i v) := ⟨fun k hk => up_row hk _ _ _, fun j a b c => up_col (by omega) _ _ _ _⟩
theorem MtB_N {z z' : Nat → Int → Int} {T : Tx} (h : FrN z z') (hC : MtB z T) : MtB z' T := ⟨(h.2 4 (by decide) (by decide) (by decide)).trans hC.1, by rw [h.1 192 (by decide)]; exact hC.2⟩
def heT (T : Tx) (i : Int) : Int := if i < T.1 then T.2 i else -1
theorem heT_r {T : Tx} (hT : Tg T) {i : Int} (h : 0 ≤ i) : -1 ≤ heT T i ∧ heT T i ≤ 255 := by
  unfold heT; split
  · have := hT.2 i h (by assumption); omega
  · omega
theorem heT_1 {T : Tx} {i : Int} : (97 ≤ heT T i ∧ heT T i ≤ 122) ↔ ckT T i = 1 := by
  rw [ckT_1]; unfold heT; split <;> omega
theorem heT_2 {T : Tx} {i : Int} : (48 ≤ heT T i ∧ heT T i ≤ 57) ↔ ckT T i = 2 := by
  rw [ckT_2]; unfold heT; split <;> omega
theorem g_here {T : Tx} {i : Int} (hT : Tg T) (hM : MtB z T) (h5 : z 189 5 = i) (h0 : 0 ≤ i) (h1 : i < 1000) : f_X12_here 189 (M p z l) = some (I3 (heT T i), M p z l) := by
  have hT1 := hT.1
  have e4 := hM.1
  apply W_eq; unfold f_X12_here heT
  by_cases h : i < T.1
  · have hv := hT.2 i h0 h
    have e := hM.2 i h0 h
    have ea := and255 hv.1 hv.2
    rw [if_pos h]
    simp (disch := first | assumption | omega) only [↓b_hid, bH_some, ↓hid_W, W_some, I3_a, I3_s, I3_m, I3_n, I3_l, I3_lt, I3_le, I3_e, I3_dv, I3_rm, I3_mx, I3_mn, I3_ab, cI, bI_0, bI_1, rZ_b, up_same, up_row, up_col, xr_some, LQ_r, LQ_l, Int.sub_self, Int.add_zero, Int.zero_add, Int.sub_zero, Int.neg_neg, not_true_eq_false, not_false_eq_true, Int.add_sub_cancel, ↓ite_iH, iH_t, iH_f, bH_iH, ↓bH_bind, xr_iH, ↓xr_bind, W_iH, WI_t, WI_f, gI_189, pI_189, iO_189, gR_189_0, aI_190, sI_190, gR_189_1, aI_191, sI_191, gR_189_3, aI_192, gR_189_10, aI_193, sI_193, gR_189_11, aI_194, sI_194, gR_189_13, aI_195, sI_195, gR_189_15, aI_196, sI_196, gR_189_17, aI_197, sI_197, gR_189_18, aI_198, sI_198, gR_189_19, aI_199, sI_199, gR_189_20, aI_200, sI_200, gR_189_23, aI_201, gR_189_24, aI_202, sI_202, gR_189_25, aI_203, sI_203, gR_189_29, aI_204, sI_204, gR_189_32, aI_205, sI_205, gR_189_35, aI_206, sI_206, pZ_189, gL_189, pL_189, h5, e4, e, ea, iH_pos, iH_neg, WI_pos, WI_neg]
  · rw [if_neg h]
    simp (disch := first | assumption | omega) only [↓b_hid, bH_some, ↓hid_W, W_some, I3_a, I3_s, I3_m, I3_n, I3_l, I3_lt, I3_le, I3_e, I3_dv, I3_rm, I3_mx, I3_mn, I3_ab, cI, bI_0, bI_1, rZ_b, up_same, up_row, up_col, xr_some, LQ_r, LQ_l, Int.sub_self, Int.add_zero, Int.zero_add, Int.sub_zero, Int.neg_neg, not_true_eq_false, not_false_eq_true, Int.add_sub_cancel, ↓ite_iH, iH_t, iH_f, bH_iH, ↓bH_bind, xr_iH, ↓xr_bind, W_iH, WI_t, WI_f, gI_189, pI_189, iO_189, gR_189_0, aI_190, sI_190, gR_189_1, aI_191, sI_191, gR_189_3, aI_192, gR_189_10, aI_193, sI_193, gR_189_11, aI_194, sI_194, gR_189_13, aI_195, sI_195, gR_189_15, aI_196, sI_196, gR_189_17, aI_197, sI_197, gR_189_18, aI_198, sI_198, gR_189_19, aI_199, sI_199, gR_189_20, aI_200, sI_200, gR_189_23, aI_201, gR_189_24, aI_202, sI_202, gR_189_25, aI_203, sI_203, gR_189_29, aI_204, sI_204, gR_189_32, aI_205, sI_205, gR_189_35, aI_206, sI_206, pZ_189, gL_189, pL_189, h5, e4, iH_pos, iH_neg, WI_pos, WI_neg]
/-- the token at hand is that behind q -/
def Tk (T : Tx) (q : Int) (z l : Nat → Int → Int) : Prop := z 189 5 = tkE T q ∧ z 189 6 = tkS T q ∧ z 189 7 = tkK T q ∧ (tkK T q = 2 → l 189 8 = tkV T q) ∧ (tkK T q = 1 → l 189 8 = tkW T q)
theorem hwT_b {T : Tx} {s : Int} (hT : Tg T) : ∀ k : Nat, 0 ≤ s → s + k ≤ T.1 → -1000000000000000 ≤ hwT T s k ∧ (k ≤ 8 → -100 * 28 ^ k ≤ hwT T s k ∧ hwT T s k ≤ 300 * 28 ^ k) ∧ hwT T s k ≤ 1000000000000000
  | 0, _, _ => by simp [hwT]
  | k + 1, h0, h1 => by
    have ih := hwT_b hT k h0 (by omega)
    have hv := hT.2 (s + k) (by omega) (by omega)
    have h3 : (28 : Int) ^ (k + 1) = 28 * 28 ^ k := by rw [Int.pow_succ, Int.mul_comm]
    have h4 : (1 : Int) ≤ 28 ^ k := by
      have : 0 < (28 : Int) ^ k := Int.pow_pos (by decide)
      omega
    rw [hwT]
    by_cases hk : k < 8
    · rw [if_pos hk]
      have h5 := ih.2.1 (by omega)
      have h6 : (28 : Int) ^ (k + 1) ≤ 28 ^ 8 := by
        have : (28 : Nat) ^ (k + 1) ≤ 28 ^ 8 := Nat.pow_le_pow_right (by decide) (by omega)
        exact_mod_cast this
      have h7 : (28 : Int) ^ 8 = 377801998336 := by decide
      refine ⟨by omega, fun _ => ⟨by omega, by omega⟩, by omega⟩
    · rw [if_neg hk]
      exact ⟨by omega, fun h => by omega, by omega⟩
set_option maxHeartbeats 8000000 in
theorem m_readsT {T : Tx} {q : Int} (hT : Tg T) (hM : MtB z T) (h0 : 0 ≤ q) (h1 : q ≤ T.1) (h5 : z 189 5 = q) : WP (f_X12_readsToken 189 (M p z l)) (fun μ => ∃ z' l', μ = M p z' l' ∧ FrN z z' ∧ Tk T q z' l') := by
  have hT1 := hT.1
  obtain ⟨s1, s2⟩ := tkS_r hT h0 h1
  obtain ⟨k1, k2, k3⟩ := tkE_r hT h0 h1
  have rest : ∀ z1 : Nat → Int → Int, FrN z z1 → z1 189 5 = tkS T q → WP (f_X12_readsToken_22 189 (M p z1 l)) (fun μ => ∃ z' l', μ = M p z' l' ∧ FrN z z' ∧ Tk T q z' l') := by
    intro z1 hF e5
    have ckr := ckT_r T (tkS T q)
    unfold f_X12_readsToken_22
    generalize hz2 : up z1 189 6 (tkS T q) = z2
    have hF2 : FrN z z2 := by rw [← hz2]; exact FrN_t hF (FrN_up (Or.inr (Or.inl rfl)) _)
    have g5 : z2 189 5 = tkS T q := by rw [← hz2, up_col (by decide)]; exact e5
    have g6 : z2 189 6 = tkS T q := by rw [← hz2, up_same]
    generalize hl2 : up l 189 8 0 = l2
    have gl2 : l2 189 8 = 0 := by rw [← hl2, up_same]
    have gh := g_here (p := p) (l := l2) hT (MtB_N hF2 hM) g5 (by omega) (by omega)
    have hr := heT_r hT (i := tkS T q) (by omega)
    by_cases c1 : ckT T (tkS T q) = 1
    · have hc := heT_1.mpr c1
      have hE : tkE T q = ruT T 1 201 (tkS T q) := by
        have : tkE T q = ruT T (ckT T (tkS T q)) 200 (tkS T q + 1) := by unfold tkE; rw [if_neg (by omega), if_pos (Or.inl c1)]
        rw [this, c1, ruT_s T 1 200 (tkS T q), if_pos ⟨(ckT_1.mp c1).1, c1⟩]
      have hK : tkK T q = 1 := tkK_01.2.mpr c1
      simp (disch := first | assumption | omega) only [↓b_hid, bH_some, ↓hid_W, W_some, I3_a, I3_s, I3_m, I3_n, I3_l, I3_lt, I3_le, I3_e, I3_dv, I3_rm, I3_mx, I3_mn, I3_ab, cI, bI_0, bI_1, rZ_b, up_same, up_row, up_col, xr_some, LQ_r, LQ_l, Int.sub_self, Int.add_zero, Int.zero_add, Int.sub_zero, Int.neg_neg, not_true_eq_false, not_false_eq_true, Int.add_sub_cancel, ↓ite_iH, iH_t, iH_f, bH_iH, ↓bH_bind, xr_iH, ↓xr_bind, W_iH, WI_t, WI_f, gI_189, pI_189, iO_189, gR_189_0, aI_190, sI_190, gR_189_1, aI_191, sI_191, gR_189_3, aI_192, gR_189_10, aI_193, sI_193, gR_189_11, aI_194, sI_194, gR_189_13, aI_195, sI_195, gR_189_15, aI_196, sI_196, gR_189_17, aI_197, sI_197, gR_189_18, aI_198, sI_198, gR_189_19, aI_199, sI_199, gR_189_20, aI_200, sI_200, gR_189_23, aI_201, gR_189_24, aI_202, sI_202, gR_189_25, aI_203, sI_203, gR_189_29, aI_204, sI_204, gR_189_32, aI_205, sI_205, gR_189_35, aI_206, sI_206, pZ_189, gL_189, pL_189, e5, hz2, I6_l, hl2, gh, m_in, bI_t, iH_pos, iH_neg, WI_pos, WI_neg]
      generalize hz3 : up z2 189 7 1 = z3
      have hF3 : FrN z z3 := by rw [← hz3]; exact FrN_t hF2 (FrN_up (Or.inr (Or.inr rfl)) _)
      have j5 : z3 189 5 = tkS T q := by rw [← hz3, up_col (by decide)]; exact g5
      have j6 : z3 189 6 = tkS T q := by rw [← hz3, up_col (by decide)]; exact g6
      have j7 : z3 189 7 = 1 := by rw [← hz3, up_same]
      unfold f_X12_readsToken_54
      refine lp_W (fun n st => ∃ (k : Nat) (z' l' : Nat → Int → Int), st = (189, M p z' l') ∧ tkS T q + k ≤ T.1 ∧ (T.1 : Int) - (tkS T q + k) < n ∧ FrN z z' ∧ z' 189 5 = tkS T q + k ∧ z' 189 6 = tkS T q ∧ z' 189 7 = 1 ∧ l' 189 8 = hwT T (tkS T q) k ∧ tkE T q = ruT T 1 n (tkS T q + k)) (fun n st hst => ?_) (n := 201) ⟨0, z3, l2, rfl, by omega, by omega, hF3, by rw [j5]; simp, j6, j7, by rw [gl2]; rfl, by rw [hE]; simp⟩
      obtain ⟨k, z4, l4, rfl, hk1, hk2, hF4, i5, i6, i7, i8, hEn⟩ := hst
      obtain ⟨n, rfl⟩ : ∃ m, n = m + 1 := ⟨n - 1, by omega⟩
      have gh4 := g_here (p := p) (l := l4) hT (MtB_N hF4 hM) i5 (by omega) (by omega)
      have hr4 := heT_r hT (i := tkS T q + k) (by omega)
      rw [ruT] at hEn
      unfold f_X12_readsToken_54_b
      by_cases ck : ckT T (tkS T q + k) = 1
      · have hc4 := heT_1.mpr ck
        have hlt := (ckT_1.mp ck).1
        rw [if_pos ⟨hlt, ck⟩] at hEn
        have hhe : heT T (tkS T q + k) = T.2 (tkS T q + k) := by unfold heT; rw [if_pos hlt]
        have hb := hwT_b hT (s := tkS T q) k (by omega) (by omega)
        have ek : tkS T q + k - tkS T q = k := by omega
        rw [Int.add_assoc] at hEn
        by_cases hk8 : k < 8
        · have hw : hwT T (tkS T q) (k + 1) = 27 * hwT T (tkS T q) k + T.2 (tkS T q + k) - 96 := by rw [hwT, if_pos hk8]
          simp (disch := first | assumption | omega) only [↓b_hid, bH_some, ↓hid_W, W_some, I3_a, I3_s, I3_m, I3_n, I3_l, I3_lt, I3_le, I3_e, I3_dv, I3_rm, I3_mx, I3_mn, I3_ab, cI, bI_0, bI_1, rZ_b, up_same, up_row, up_col, xr_some, LQ_r, LQ_l, Int.sub_self, Int.add_zero, Int.zero_add, Int.sub_zero, Int.neg_neg, not_true_eq_false, not_false_eq_true, Int.add_sub_cancel, ↓ite_iH, iH_t, iH_f, bH_iH, ↓bH_bind, xr_iH, ↓xr_bind, W_iH, WI_t, WI_f, gI_189, pI_189, iO_189, gR_189_0, aI_190, sI_190, gR_189_1, aI_191, sI_191, gR_189_3, aI_192, gR_189_10, aI_193, sI_193, gR_189_11, aI_194, sI_194, gR_189_13, aI_195, sI_195, gR_189_15, aI_196, sI_196, gR_189_17, aI_197, sI_197, gR_189_18, aI_198, sI_198, gR_189_19, aI_199, sI_199, gR_189_20, aI_200, sI_200, gR_189_23, aI_201, gR_189_24, aI_202, sI_202, gR_189_25, aI_203, sI_203, gR_189_29, aI_204, sI_204, gR_189_32, aI_205, sI_205, gR_189_35, aI_206, sI_206, pZ_189, gL_189, pL_189, gh4, m_in, bI_t, i5, i6, ek, i8, I6_l, I6_m, I6_a, I6_s, t64, f_X12_readsToken_109, iH_pos, iH_neg, WI_pos, WI_neg]
          refine ⟨n, by omega, k + 1, _, _, rfl, by omega, by omega, FrN_t hF4 (FrN_up (Or.inl rfl) _), ?_, ?_, ?_, ?_, ?_⟩
          · rw [up_same, Int.natCast_add]; omega
          · rw [up_col (by decide)]; exact i6
          · rw [up_col (by decide)]; exact i7
          · rw [up_same, hw, hhe]; omega
          · rw [hEn, Int.natCast_add]; rfl
        · have hw : hwT T (tkS T q) (k + 1) = -1 := by rw [hwT, if_neg hk8]
          simp (disch := first | assumption | omega) only [↓b_hid, bH_some, ↓hid_W, W_some, I3_a, I3_s, I3_m, I3_n, I3_l, I3_lt, I3_le, I3_e, I3_dv, I3_rm, I3_mx, I3_mn, I3_ab, cI, bI_0, bI_1, rZ_b, up_same, up_row, up_col, xr_some, LQ_r, LQ_l, Int.sub_self, Int.add_zero, Int.zero_add, Int.sub_zero, Int.neg_neg, not_true_eq_false, not_false_eq_true, Int.add_sub_cancel, ↓ite_iH, iH_t, iH_f, bH_iH, ↓bH_bind, xr_iH, ↓xr_bind, W_iH, WI_t, WI_f, gI_189, pI_189, iO_189, gR_189_0, aI_190, sI_190, gR_189_1, aI_191, sI_191, gR_189_3, aI_192, gR_189_10, aI_193, sI_193, gR_189_11, aI_194, sI_194, gR_189_13, aI_195, sI_195, gR_189_15, aI_196, sI_196, gR_189_17, aI_197, sI_197, gR_189_18, aI_198, sI_198, gR_189_19, aI_199, sI_199, gR_189_20, aI_200, sI_200, gR_189_23, aI_201, gR_189_24, aI_202, sI_202, gR_189_25, aI_203, sI_203, gR_189_29, aI_204, sI_204, gR_189_32, aI_205, sI_205, gR_189_35, aI_206, sI_206, pZ_189, gL_189, pL_189, gh4, m_in, bI_t, i5, i6, ek, i8, I6_l, I6_n, f_X12_readsToken_109, iH_pos, iH_neg, WI_pos, WI_neg]
          refine ⟨n, by omega, k + 1, _, _, rfl, by omega, by omega, FrN_t hF4 (FrN_up (Or.inl rfl) _), ?_, ?_, ?_, ?_, ?_⟩
          · rw [up_same, Int.natCast_add]; omega
          · rw [up_col (by decide)]; exact i6
          · rw [up_col (by decide)]; exact i7
          · rw [up_same, hw]
          · rw [hEn, Int.natCast_add]; rfl
      · have hc4 : ¬(97 ≤ heT T (tkS T q + k) ∧ heT T (tkS T q + k) ≤ 122) := fun h => ck (heT_1.mp h)
        rw [if_neg (fun h => ck h.2)] at hEn
        simp (disch := first | assumption | omega) only [↓b_hid, bH_some, ↓hid_W, W_some, I3_a, I3_s, I3_m, I3_n, I3_l, I3_lt, I3_le, I3_e, I3_dv, I3_rm, I3_mx, I3_mn, I3_ab, cI, bI_0, bI_1, rZ_b, up_same, up_row, up_col, xr_some, LQ_r, LQ_l, Int.sub_self, Int.add_zero, Int.zero_add, Int.sub_zero, Int.neg_neg, not_true_eq_false, not_false_eq_true, Int.add_sub_cancel, ↓ite_iH, iH_t, iH_f, bH_iH, ↓bH_bind, xr_iH, ↓xr_bind, W_iH, WI_t, WI_f, gI_189, pI_189, iO_189, gR_189_0, aI_190, sI_190, gR_189_1, aI_191, sI_191, gR_189_3, aI_192, gR_189_10, aI_193, sI_193, gR_189_11, aI_194, sI_194, gR_189_13, aI_195, sI_195, gR_189_15, aI_196, sI_196, gR_189_17, aI_197, sI_197, gR_189_18, aI_198, sI_198, gR_189_19, aI_199, sI_199, gR_189_20, aI_200, sI_200, gR_189_23, aI_201, gR_189_24, aI_202, sI_202, gR_189_25, aI_203, sI_203, gR_189_29, aI_204, sI_204, gR_189_32, aI_205, sI_205, gR_189_35, aI_206, sI_206, pZ_189, gL_189, pL_189, gh4, m_in, bI_f, f_X12_readsToken_313, iH_pos, iH_neg, WI_pos, WI_neg]
        refine ⟨z4, l4, rfl, hF4, by rw [i5, hEn], i6, by rw [i7, hK], fun h => by omega, fun _ => ?_⟩
        rw [i8]; unfold tkW tkL
        rw [hEn, show (tkS T q + (k : Int) - tkS T q).toNat = k by omega]
    · have hc1 : ¬(97 ≤ heT T (tkS T q) ∧ heT T (tkS T q) ≤ 122) := fun h => c1 (heT_1.mp h)
      by_cases c2 : ckT T (tkS T q) = 2
      · have hc := heT_2.mpr c2
        have hlt0 := (ckT_2.mp c2).1
        have hE : tkE T q = ruT T 2 201 (tkS T q) := by
          have : tkE T q = ruT T (ckT T (tkS T q)) 200 (tkS T q + 1) := by unfold tkE; rw [if_neg (by omega), if_pos (Or.inr c2)]
          rw [this, c2, ruT_s T 2 200 (tkS T q), if_pos ⟨hlt0, c2⟩]
        have hhe0 : heT T (tkS T q) = T.2 (tkS T q) := by unfold heT; rw [if_pos hlt0]
        have hdig : ∀ i, tkS T q ≤ i → i < tkE T q → 48 ≤ T.2 i ∧ T.2 i ≤ 57 := fun i i0 i1 => by
          have := k3 (Or.inr c2) i i0 i1
          rw [c2] at this
          exact (ckT_2.mp this).2
        have loop : ∀ w : Int, (w = 1 ∧ T.2 (tkS T q) = 48 ∨ w = 0 ∧ T.2 (tkS T q) ≠ 48) → WP (f_X12_readsToken_153 189 (I3 w) (M p z2 l2)) (fun μ => ∃ z' l', μ = M p z' l' ∧ FrN z z' ∧ Tk T q z' l') := by
          intro w hw
          unfold f_X12_readsToken_153 f_X12_readsToken_154
          refine lp_W (fun n st => ∃ (k : Nat) (z' l' : Nat → Int → Int), st = (189, I3 w, M p z' l') ∧ tkS T q + k ≤ tkE T q ∧ (T.1 : Int) - (tkS T q + k) < n ∧ FrN z z' ∧ z' 189 5 = tkS T q + k ∧ z' 189 6 = tkS T q ∧ (0 ≤ l' 189 8 ∧ l' 189 8 < 1000000) ∧ (k ≤ 5 → l' 189 8 = vlT T (tkS T q) k) ∧ tkE T q = ruT T 2 n (tkS T q + k)) (fun n st hst => ?_) (n := 201) ⟨0, z2, l2, rfl, by omega, by omega, hF2, by rw [g5]; simp, g6, by rw [gl2]; omega, fun _ => by rw [gl2]; rfl, by rw [hE]; simp⟩
          obtain ⟨k, z4, l4, rfl, hk1, hk2, hF4, i5, i6, i8, i9, hEn⟩ := hst
          obtain ⟨n, rfl⟩ : ∃ m, n = m + 1 := ⟨n - 1, by omega⟩
          have gh4 := g_here (p := p) (l := l4) hT (MtB_N hF4 hM) i5 (by omega) (by omega)
          have hr4 := heT_r hT (i := tkS T q + k) (by omega)
          have hpre := ruT_r (T := T) (k := 2) (n + 1) (tkS T q + k) (by omega) (by omega) (by omega)
          rw [← hEn] at hpre
          rw [ruT] at hEn
          unfold f_X12_readsToken_154_b
          by_cases ck : ckT T (tkS T q + k) = 2
          · have hc4 := heT_2.mpr ck
            have hlt := (ckT_2.mp ck).1
            rw [if_pos ⟨hlt, ck⟩, Int.add_assoc] at hEn
            have hhe : heT T (tkS T q + k) = T.2 (tkS T q + k) := by unfold heT; rw [if_pos hlt]
            have hle : tkS T q + k < tkE T q := by
              have h6 := hpre.2.1
              by_cases h7 : tkE T q = tkS T q + k
              · exact absurd ⟨by omega, by rw [h7]; exact ck⟩ h6
              · omega
            have hdk := vlT_r (T := T) (s := tkS T q) k (fun i i0 i1 => hdig i i0 (by omega))
            have hvl : vlT T (tkS T q) (k + 1) = 10 * vlT T (tkS T q) k + (T.2 (tkS T q + k) - 48) := rfl
            by_cases hb : l4 189 8 < 100000
            · simp (disch := first | assumption | omega) only [↓b_hid, bH_some, ↓hid_W, W_some, I3_a, I3_s, I3_m, I3_n, I3_l, I3_lt, I3_le, I3_e, I3_dv, I3_rm, I3_mx, I3_mn, I3_ab, cI, bI_0, bI_1, rZ_b, up_same, up_row, up_col, xr_some, LQ_r, LQ_l, Int.sub_self, Int.add_zero, Int.zero_add, Int.sub_zero, Int.neg_neg, not_true_eq_false, not_false_eq_true, Int.add_sub_cancel, ↓ite_iH, iH_t, iH_f, bH_iH, ↓bH_bind, xr_iH, ↓xr_bind, W_iH, WI_t, WI_f, gI_189, pI_189, iO_189, gR_189_0, aI_190, sI_190, gR_189_1, aI_191, sI_191, gR_189_3, aI_192, gR_189_10, aI_193, sI_193, gR_189_11, aI_194, sI_194, gR_189_13, aI_195, sI_195, gR_189_15, aI_196, sI_196, gR_189_17, aI_197, sI_197, gR_189_18, aI_198, sI_198, gR_189_19, aI_199, sI_199, gR_189_20, aI_200, sI_200, gR_189_23, aI_201, gR_189_24, aI_202, sI_202, gR_189_25, aI_203, sI_203, gR_189_29, aI_204, sI_204, gR_189_32, aI_205, sI_205, gR_189_35, aI_206, sI_206, pZ_189, gL_189, pL_189, gh4, m_in, bI_t, lg_ge, I6_l, I6_m, I6_a, I6_s, t64, i5, f_X12_readsToken_205, iH_pos, iH_neg, WI_pos, WI_neg]
              refine ⟨n, by omega, k + 1, _, _, rfl, by omega, by omega, FrN_t hF4 (FrN_up (Or.inl rfl) _), ?_, ?_, ?_, fun hk5 => ?_, ?_⟩
              · rw [up_same, Int.natCast_add]; omega
              · rw [up_col (by decide)]; exact i6
              · rw [up_same]; omega
              · rw [up_same, hvl, hhe, i9 (by omega)]; omega
              · rw [hEn, Int.natCast_add]; rfl
            · simp (disch := first | assumption | omega) only [↓b_hid, bH_some, ↓hid_W, W_some, I3_a, I3_s, I3_m, I3_n, I3_l, I3_lt, I3_le, I3_e, I3_dv, I3_rm, I3_mx, I3_mn, I3_ab, cI, bI_0, bI_1, rZ_b, up_same, up_row, up_col, xr_some, LQ_r, LQ_l, Int.sub_self, Int.add_zero, Int.zero_add, Int.sub_zero, Int.neg_neg, not_true_eq_false, not_false_eq_true, Int.add_sub_cancel, ↓ite_iH, iH_t, iH_f, bH_iH, ↓bH_bind, xr_iH, ↓xr_bind, W_iH, WI_t, WI_f, gI_189, pI_189, iO_189, gR_189_0, aI_190, sI_190, gR_189_1, aI_191, sI_191, gR_189_3, aI_192, gR_189_10, aI_193, sI_193, gR_189_11, aI_194, sI_194, gR_189_13, aI_195, sI_195, gR_189_15, aI_196, sI_196, gR_189_17, aI_197, sI_197, gR_189_18, aI_198, sI_198, gR_189_19, aI_199, sI_199, gR_189_20, aI_200, sI_200, gR_189_23, aI_201, gR_189_24, aI_202, sI_202, gR_189_25, aI_203, sI_203, gR_189_29, aI_204, sI_204, gR_189_32, aI_205, sI_205, gR_189_35, aI_206, sI_206, pZ_189, gL_189, pL_189, gh4, m_in, bI_t, lg_ge, I6_l, i5, f_X12_readsToken_205, iH_pos, iH_neg, WI_pos, WI_neg]
              refine ⟨n, by omega, k + 1, _, _, rfl, by omega, by omega, FrN_t hF4 (FrN_up (Or.inl rfl) _), ?_, ?_, ?_, fun hk5 => ?_, ?_⟩
              · rw [up_same, Int.natCast_add]; omega
              · rw [up_col (by decide)]; exact i6
              · rw [up_same]; omega
              · exfalso
                have h1 := i9 (by omega)
                have h2 := hdk.2 (by omega)
                have h3 : (10 : Int) ^ k ≤ 10 ^ 4 := by
                  have : (10 : Nat) ^ k ≤ 10 ^ 4 := Nat.pow_le_pow_right (by decide) (by omega)
                  exact_mod_cast this
                have h4 : (10 : Int) ^ 4 = 10000 := by decide
                omega
              · rw [hEn, Int.natCast_add]; rfl
          · have hc4 : ¬(48 ≤ heT T (tkS T q + k) ∧ heT T (tkS T q + k) ≤ 57) := fun h => ck (heT_2.mp h)
            rw [if_neg (fun h => ck h.2)] at hEn
            have eEk : tkE T q - tkS T q = k := by omega
            have ek : tkS T q + k - tkS T q = k := by omega
            have eL : tkL T q = k := by unfold tkL; omega
            simp (disch := first | assumption | omega) only [↓b_hid, bH_some, ↓hid_W, W_some, I3_a, I3_s, I3_m, I3_n, I3_l, I3_lt, I3_le, I3_e, I3_dv, I3_rm, I3_mx, I3_mn, I3_ab, cI, bI_0, bI_1, rZ_b, up_same, up_row, up_col, xr_some, LQ_r, LQ_l, Int.sub_self, Int.add_zero, Int.zero_add, Int.sub_zero, Int.neg_neg, not_true_eq_false, not_false_eq_true, Int.add_sub_cancel, ↓ite_iH, iH_t, iH_f, bH_iH, ↓bH_bind, xr_iH, ↓xr_bind, W_iH, WI_t, WI_f, gI_189, pI_189, iO_189, gR_189_0, aI_190, sI_190, gR_189_1, aI_191, sI_191, gR_189_3, aI_192, gR_189_10, aI_193, sI_193, gR_189_11, aI_194, sI_194, gR_189_13, aI_195, sI_195, gR_189_15, aI_196, sI_196, gR_189_17, aI_197, sI_197, gR_189_18, aI_198, sI_198, gR_189_19, aI_199, sI_199, gR_189_20, aI_200, sI_200, gR_189_23, aI_201, gR_189_24, aI_202, sI_202, gR_189_25, aI_203, sI_203, gR_189_29, aI_204, sI_204, gR_189_32, aI_205, sI_205, gR_189_35, aI_206, sI_206, pZ_189, gL_189, pL_189, gh4, m_in, bI_f, iH_pos, iH_neg, WI_pos, WI_neg]
            refine W_xr ?_
            simp only [LQ_r]
            unfold f_X12_readsToken_221
            have done : ∀ v : Int, tkK T q = v → ∃ z' l', M p (up z4 189 7 v) l4 = M p z' l' ∧ FrN z z' ∧ Tk T q z' l' := by
              intro v hv
              refine ⟨_, l4, rfl, FrN_t hF4 (FrN_up (Or.inr (Or.inr rfl)) _), ?_, ?_, ?_, fun h2 => ?_, fun h1 => ?_⟩
              · rw [up_col (by decide), i5, hEn]
              · rw [up_col (by decide)]; exact i6
              · rw [up_same, hv]
              · unfold tkV
                rw [eL]
                refine i9 ?_
                unfold tkK at h2
                rw [if_pos c2] at h2
                split at h2
                · omega
                · omega
              · unfold tkK at h1
                rw [if_pos c2] at h1
                split at h1 <;> omega
            by_cases h5k : (5 : Int) < k
            · have := done 4 (by unfold tkK; rw [if_pos c2, if_pos (Or.inl (by omega))])
              simp (disch := first | assumption | omega) only [↓b_hid, bH_some, ↓hid_W, W_some, I3_a, I3_s, I3_m, I3_n, I3_l, I3_lt, I3_le, I3_e, I3_dv, I3_rm, I3_mx, I3_mn, I3_ab, cI, bI_0, bI_1, rZ_b, up_same, up_row, up_col, xr_some, LQ_r, LQ_l, Int.sub_self, Int.add_zero, Int.zero_add, Int.sub_zero, Int.neg_neg, not_true_eq_false, not_false_eq_true, Int.add_sub_cancel, ↓ite_iH, iH_t, iH_f, bH_iH, ↓bH_bind, xr_iH, ↓xr_bind, W_iH, WI_t, WI_f, gI_189, pI_189, iO_189, gR_189_0, aI_190, sI_190, gR_189_1, aI_191, sI_191, gR_189_3, aI_192, gR_189_10, aI_193, sI_193, gR_189_11, aI_194, sI_194, gR_189_13, aI_195, sI_195, gR_189_15, aI_196, sI_196, gR_189_17, aI_197, sI_197, gR_189_18, aI_198, sI_198, gR_189_19, aI_199, sI_199, gR_189_20, aI_200, sI_200, gR_189_23, aI_201, gR_189_24, aI_202, sI_202, gR_189_25, aI_203, sI_203, gR_189_29, aI_204, sI_204, gR_189_32, aI_205, sI_205, gR_189_35, aI_206, sI_206, pZ_189, gL_189, pL_189, i5, i6, ek, f_X12_readsToken_252, f_X12_readsToken_257, iH_pos, iH_neg, WI_pos, WI_neg]
              exact this
            · rcases hw with ⟨rfl, hw⟩ | ⟨rfl, hw⟩
              · by_cases hk1' : (k : Int) ≤ 1
                · have := done 2 (by unfold tkK; rw [if_pos c2, if_neg (by omega)])
                  simp (disch := first | assumption | omega) only [↓b_hid, bH_some, ↓hid_W, W_some, I3_a, I3_s, I3_m, I3_n, I3_l, I3_lt, I3_le, I3_e, I3_dv, I3_rm, I3_mx, I3_mn, I3_ab, cI, bI_0, bI_1, rZ_b, up_same, up_row, up_col, xr_some, LQ_r, LQ_l, Int.sub_self, Int.add_zero, Int.zero_add, Int.sub_zero, Int.neg_neg, not_true_eq_false, not_false_eq_true, Int.add_sub_cancel, ↓ite_iH, iH_t, iH_f, bH_iH, ↓bH_bind, xr_iH, ↓xr_bind, W_iH, WI_t, WI_f, gI_189, pI_189, iO_189, gR_189_0, aI_190, sI_190, gR_189_1, aI_191, sI_191, gR_189_3, aI_192, gR_189_10, aI_193, sI_193, gR_189_11, aI_194, sI_194, gR_189_13, aI_195, sI_195, gR_189_15, aI_196, sI_196, gR_189_17, aI_197, sI_197, gR_189_18, aI_198, sI_198, gR_189_19, aI_199, sI_199, gR_189_20, aI_200, sI_200, gR_189_23, aI_201, gR_189_24, aI_202, sI_202, gR_189_25, aI_203, sI_203, gR_189_29, aI_204, sI_204, gR_189_32, aI_205, sI_205, gR_189_35, aI_206, sI_206, pZ_189, gL_189, pL_189, i5, i6, ek, f_X12_readsToken_256, f_X12_readsToken_257, iH_pos, iH_neg, WI_pos, WI_neg]
                  exact this
                · have := done 4 (by unfold tkK; rw [if_pos c2, if_pos (Or.inr ⟨hw, by omega⟩)])
                  simp (disch := first | assumption | omega) only [↓b_hid, bH_some, ↓hid_W, W_some, I3_a, I3_s, I3_m, I3_n, I3_l, I3_lt, I3_le, I3_e, I3_dv, I3_rm, I3_mx, I3_mn, I3_ab, cI, bI_0, bI_1, rZ_b, up_same, up_row, up_col, xr_some, LQ_r, LQ_l, Int.sub_self, Int.add_zero, Int.zero_add, Int.sub_zero, Int.neg_neg, not_true_eq_false, not_false_eq_true, Int.add_sub_cancel, ↓ite_iH, iH_t, iH_f, bH_iH, ↓bH_bind, xr_iH, ↓xr_bind, W_iH, WI_t, WI_f, gI_189, pI_189, iO_189, gR_189_0, aI_190, sI_190, gR_189_1, aI_191, sI_191, gR_189_3, aI_192, gR_189_10, aI_193, sI_193, gR_189_11, aI_194, sI_194, gR_189_13, aI_195, sI_195, gR_189_15, aI_196, sI_196, gR_189_17, aI_197, sI_197, gR_189_18, aI_198, sI_198, gR_189_19, aI_199, sI_199, gR_189_20, aI_200, sI_200, gR_189_23, aI_201, gR_189_24, aI_202, sI_202, gR_189_25, aI_203, sI_203, gR_189_29, aI_204, sI_204, gR_189_32, aI_205, sI_205, gR_189_35, aI_206, sI_206, pZ_189, gL_189, pL_189, i5, i6, ek, f_X12_readsToken_252, f_X12_readsToken_257, iH_pos, iH_neg, WI_pos, WI_neg]
                  exact this
              · have := done 2 (by unfold tkK; rw [if_pos c2, if_neg (by omega)])
                simp (disch := first | assumption | omega) only [↓b_hid, bH_some, ↓hid_W, W_some, I3_a, I3_s, I3_m, I3_n, I3_l, I3_lt, I3_le, I3_e, I3_dv, I3_rm, I3_mx, I3_mn, I3_ab, cI, bI_0, bI_1, rZ_b, up_same, up_row, up_col, xr_some, LQ_r, LQ_l, Int.sub_self, Int.add_zero, Int.zero_add, Int.sub_zero, Int.neg_neg, not_true_eq_false, not_false_eq_true, Int.add_sub_cancel, ↓ite_iH, iH_t, iH_f, bH_iH, ↓bH_bind, xr_iH, ↓xr_bind, W_iH, WI_t, WI_f, gI_189, pI_189, iO_189, gR_189_0, aI_190, sI_190, gR_189_1, aI_191, sI_191, gR_189_3, aI_192, gR_189_10, aI_193, sI_193, gR_189_11, aI_194, sI_194, gR_189_13, aI_195, sI_195, gR_189_15, aI_196, sI_196, gR_189_17, aI_197, sI_197, gR_189_18, aI_198, sI_198, gR_189_19, aI_199, sI_199, gR_189_20, aI_200, sI_200, gR_189_23, aI_201, gR_189_24, aI_202, sI_202, gR_189_25, aI_203, sI_203, gR_189_29, aI_204, sI_204, gR_189_32, aI_205, sI_205, gR_189_35, aI_206, sI_206, pZ_189, gL_189, pL_189, i5, i6, ek, f_X12_readsToken_256, f_X12_readsToken_257, iH_pos, iH_neg, WI_pos, WI_neg]
                exact this
        by_cases h48 : T.2 (tkS T q) = 48
        · have := loop 1 (Or.inl ⟨rfl, h48⟩)
          rw [hhe0, h48] at gh
          simp (disch := first | assumption | omega) only [↓b_hid, bH_some, ↓hid_W, W_some, I3_a, I3_s, I3_m, I3_n, I3_l, I3_lt, I3_le, I3_e, I3_dv, I3_rm, I3_mx, I3_mn, I3_ab, cI, bI_0, bI_1, rZ_b, up_same, up_row, up_col, xr_some, LQ_r, LQ_l, Int.sub_self, Int.add_zero, Int.zero_add, Int.sub_zero, Int.neg_neg, not_true_eq_false, not_false_eq_true, Int.add_sub_cancel, ↓ite_iH, iH_t, iH_f, bH_iH, ↓bH_bind, xr_iH, ↓xr_bind, W_iH, WI_t, WI_f, gI_189, pI_189, iO_189, gR_189_0, aI_190, sI_190, gR_189_1, aI_191, sI_191, gR_189_3, aI_192, gR_189_10, aI_193, sI_193, gR_189_11, aI_194, sI_194, gR_189_13, aI_195, sI_195, gR_189_15, aI_196, sI_196, gR_189_17, aI_197, sI_197, gR_189_18, aI_198, sI_198, gR_189_19, aI_199, sI_199, gR_189_20, aI_200, sI_200, gR_189_23, aI_201, gR_189_24, aI_202, sI_202, gR_189_25, aI_203, sI_203, gR_189_29, aI_204, sI_204, gR_189_32, aI_205, sI_205, gR_189_35, aI_206, sI_206, pZ_189, gL_189, pL_189, e5, hz2, I6_l, hl2, gh, m_in, bI_t, bI_f, iH_pos, iH_neg, WI_pos, WI_neg]
          exact this
        · have := loop 0 (Or.inr ⟨rfl, h48⟩)
          rw [hhe0] at gh
          rw [hhe0] at hc1 hc hr
          simp (disch := first | assumption | omega) only [↓b_hid, bH_some, ↓hid_W, W_some, I3_a, I3_s, I3_m, I3_n, I3_l, I3_lt, I3_le, I3_e, I3_dv, I3_rm, I3_mx, I3_mn, I3_ab, cI, bI_0, bI_1, rZ_b, up_same, up_row, up_col, xr_some, LQ_r, LQ_l, Int.sub_self, Int.add_zero, Int.zero_add, Int.sub_zero, Int.neg_neg, not_true_eq_false, not_false_eq_true, Int.add_sub_cancel, ↓ite_iH, iH_t, iH_f, bH_iH, ↓bH_bind, xr_iH, ↓xr_bind, W_iH, WI_t, WI_f, gI_189, pI_189, iO_189, gR_189_0, aI_190, sI_190, gR_189_1, aI_191, sI_191, gR_189_3, aI_192, gR_189_10, aI_193, sI_193, gR_189_11, aI_194, sI_194, gR_189_13, aI_195, sI_195, gR_189_15, aI_196, sI_196, gR_189_17, aI_197, sI_197, gR_189_18, aI_198, sI_198, gR_189_19, aI_199, sI_199, gR_189_20, aI_200, sI_200, gR_189_23, aI_201, gR_189_24, aI_202, sI_202, gR_189_25, aI_203, sI_203, gR_189_29, aI_204, sI_204, gR_189_32, aI_205, sI_205, gR_189_35, aI_206, sI_206, pZ_189, gL_189, pL_189, e5, hz2, I6_l, hl2, gh, m_in, bI_t, bI_f, iH_pos, iH_neg, WI_pos, WI_neg]
          exact this
      · have hc2 : ¬(48 ≤ heT T (tkS T q) ∧ heT T (tkS T q) ≤ 57) := fun h => c2 (heT_2.mp h)
        have hK : tkK T q = ckT T (tkS T q) := by unfold tkK; rw [if_neg c2]
        have h289 : ∀ v : Int, ckT T (tkS T q) = v → WP (f_X12_readsToken_289 189 (I3 v) 189 (M p z2 l2)) (fun μ => ∃ z' l', μ = M p z' l' ∧ FrN z z' ∧ Tk T q z' l') := by
          intro v hv
          unfold f_X12_readsToken_289
          generalize hz3 : up z2 189 7 v = z3
          have hF3 : FrN z z3 := by rw [← hz3]; exact FrN_t hF2 (FrN_up (Or.inr (Or.inr rfl)) _)
          have j5 : z3 189 5 = tkS T q := by rw [← hz3, up_col (by decide)]; exact g5
          have j6 : z3 189 6 = tkS T q := by rw [← hz3, up_col (by decide)]; exact g6
          have j7 : z3 189 7 = v := by rw [← hz3, up_same]
          have gh3 := g_here (p := p) (l := l2) hT (MtB_N hF3 hM) j5 (by omega) (by omega)
          by_cases hlt : tkS T q < T.1
          · have hv0 := hT.2 (tkS T q) (by omega) hlt
            have hhe : heT T (tkS T q) = T.2 (tkS T q) := by unfold heT; rw [if_pos hlt]
            have hc0 : ckT T (tkS T q) ≠ 0 := fun h => by have := ckT_0.mp h; omega
            have hE : tkE T q = tkS T q + 1 := by unfold tkE; rw [if_neg hc0, if_neg (by omega)]
            rw [hhe] at gh3
            simp (disch := first | assumption | omega) only [↓b_hid, bH_some, ↓hid_W, W_some, I3_a, I3_s, I3_m, I3_n, I3_l, I3_lt, I3_le, I3_e, I3_dv, I3_rm, I3_mx, I3_mn, I3_ab, cI, bI_0, bI_1, rZ_b, up_same, up_row, up_col, xr_some, LQ_r, LQ_l, Int.sub_self, Int.add_zero, Int.zero_add, Int.sub_zero, Int.neg_neg, not_true_eq_false, not_false_eq_true, Int.add_sub_cancel, ↓ite_iH, iH_t, iH_f, bH_iH, ↓bH_bind, xr_iH, ↓xr_bind, W_iH, WI_t, WI_f, gI_189, pI_189, iO_189, gR_189_0, aI_190, sI_190, gR_189_1, aI_191, sI_191, gR_189_3, aI_192, gR_189_10, aI_193, sI_193, gR_189_11, aI_194, sI_194, gR_189_13, aI_195, sI_195, gR_189_15, aI_196, sI_196, gR_189_17, aI_197, sI_197, gR_189_18, aI_198, sI_198, gR_189_19, aI_199, sI_199, gR_189_20, aI_200, sI_200, gR_189_23, aI_201, gR_189_24, aI_202, sI_202, gR_189_25, aI_203, sI_203, gR_189_29, aI_204, sI_204, gR_189_32, aI_205, sI_205, gR_189_35, aI_206, sI_206, pZ_189, gL_189, pL_189, hz3, j5, gh3, f_X12_readsToken_309, iH_pos, iH_neg, WI_pos, WI_neg]
            refine ⟨_, l2, rfl, FrN_t hF3 (FrN_up (Or.inl rfl) _), ?_, ?_, ?_, fun h => by omega, fun h => by omega⟩
            · rw [up_same, hE]
            · rw [up_col (by decide)]; exact j6
            · rw [up_col (by decide), j7, hK, hv]
          · have hhe : heT T (tkS T q) = -1 := by unfold heT; rw [if_neg hlt]
            have hc0 : ckT T (tkS T q) = 0 := ckT_0.mpr (by omega)
            have hE : tkE T q = tkS T q := by unfold tkE; rw [if_pos hc0]
            rw [hhe] at gh3
            simp (disch := first | assumption | omega) only [↓b_hid, bH_some, ↓hid_W, W_some, I3_a, I3_s, I3_m, I3_n, I3_l, I3_lt, I3_le, I3_e, I3_dv, I3_rm, I3_mx, I3_mn, I3_ab, cI, bI_0, bI_1, rZ_b, up_same, up_row, up_col, xr_some, LQ_r, LQ_l, Int.sub_self, Int.add_zero, Int.zero_add, Int.sub_zero, Int.neg_neg, not_true_eq_false, not_false_eq_true, Int.add_sub_cancel, ↓ite_iH, iH_t, iH_f, bH_iH, ↓bH_bind, xr_iH, ↓xr_bind, W_iH, WI_t, WI_f, gI_189, pI_189, iO_189, gR_189_0, aI_190, sI_190, gR_189_1, aI_191, sI_191, gR_189_3, aI_192, gR_189_10, aI_193, sI_193, gR_189_11, aI_194, sI_194, gR_189_13, aI_195, sI_195, gR_189_15, aI_196, sI_196, gR_189_17, aI_197, sI_197, gR_189_18, aI_198, sI_198, gR_189_19, aI_199, sI_199, gR_189_20, aI_200, sI_200, gR_189_23, aI_201, gR_189_24, aI_202, sI_202, gR_189_25, aI_203, sI_203, gR_189_29, aI_204, sI_204, gR_189_32, aI_205, sI_205, gR_189_35, aI_206, sI_206, pZ_189, gL_189, pL_189, hz3, j5, gh3, f_X12_readsToken_309, iH_pos, iH_neg, WI_pos, WI_neg]
            refine ⟨_, l2, rfl, FrN_t hF3 (FrN_up (Or.inl rfl) _), ?_, ?_, ?_, fun h => by omega, fun h => by omega⟩
            · rw [up_same, hE]
            · rw [up_col (by decide)]; exact j6
            · rw [up_col (by decide), j7, hK, hv]
        by_cases hlt : tkS T q < T.1
        · have hv0 := hT.2 (tkS T q) (by omega) hlt
          have hhe : heT T (tkS T q) = T.2 (tkS T q) := by unfold heT; rw [if_pos hlt]
          have hck : ckT T (tkS T q) = if T.2 (tkS T q) = 59 then 3 else 4 := by
            unfold ckT; rw [if_neg (by omega), if_neg (by omega), if_neg (by omega)]
          rw [hhe] at gh hc1 hc2 hr
          by_cases h59 : T.2 (tkS T q) = 59
          · rw [if_pos h59] at hck
            have := h289 3 hck
            rw [h59] at gh
            simp (disch := first | assumption | omega) only [↓b_hid, bH_some, ↓hid_W, W_some, I3_a, I3_s, I3_m, I3_n, I3_l, I3_lt, I3_le, I3_e, I3_dv, I3_rm, I3_mx, I3_mn, I3_ab, cI, bI_0, bI_1, rZ_b, up_same, up_row, up_col, xr_some, LQ_r, LQ_l, Int.sub_self, Int.add_zero, Int.zero_add, Int.sub_zero, Int.neg_neg, not_true_eq_false, not_false_eq_true, Int.add_sub_cancel, ↓ite_iH, iH_t, iH_f, bH_iH, ↓bH_bind, xr_iH, ↓xr_bind, W_iH, WI_t, WI_f, gI_189, pI_189, iO_189, gR_189_0, aI_190, sI_190, gR_189_1, aI_191, sI_191, gR_189_3, aI_192, gR_189_10, aI_193, sI_193, gR_189_11, aI_194, sI_194, gR_189_13, aI_195, sI_195, gR_189_15, aI_196, sI_196, gR_189_17, aI_197, sI_197, gR_189_18, aI_198, sI_198, gR_189_19, aI_199, sI_199, gR_189_20, aI_200, sI_200, gR_189_23, aI_201, gR_189_24, aI_202, sI_202, gR_189_25, aI_203, sI_203, gR_189_29, aI_204, sI_204, gR_189_32, aI_205, sI_205, gR_189_35, aI_206, sI_206, pZ_189, gL_189, pL_189, e5, hz2, I6_l, hl2, gh, m_in, bI_f, iH_pos, iH_neg, WI_pos, WI_neg]
            exact this
          · rw [if_neg h59] at hck
            have := h289 4 hck
            simp (disch := first | assumption | omega) only [↓b_hid, bH_some, ↓hid_W, W_some, I3_a, I3_s, I3_m, I3_n, I3_l, I3_lt, I3_le, I3_e, I3_dv, I3_rm, I3_mx, I3_mn, I3_ab, cI, bI_0, bI_1, rZ_b, up_same, up_row, up_col, xr_some, LQ_r, LQ_l, Int.sub_self, Int.add_zero, Int.zero_add, Int.sub_zero, Int.neg_neg, not_true_eq_false, not_false_eq_true, Int.add_sub_cancel, ↓ite_iH, iH_t, iH_f, bH_iH, ↓bH_bind, xr_iH, ↓xr_bind, W_iH, WI_t, WI_f, gI_189, pI_189, iO_189, gR_189_0, aI_190, sI_190, gR_189_1, aI_191, sI_191, gR_189_3, aI_192, gR_189_10, aI_193, sI_193, gR_189_11, aI_194, sI_194, gR_189_13, aI_195, sI_195, gR_189_15, aI_196, sI_196, gR_189_17, aI_197, sI_197, gR_189_18, aI_198, sI_198, gR_189_19, aI_199, sI_199, gR_189_20, aI_200, sI_200, gR_189_23, aI_201, gR_189_24, aI_202, sI_202, gR_189_25, aI_203, sI_203, gR_189_29, aI_204, sI_204, gR_189_32, aI_205, sI_205, gR_189_35, aI_206, sI_206, pZ_189, gL_189, pL_189, e5, hz2, I6_l, hl2, gh, m_in, bI_f, iH_pos, iH_neg, WI_pos, WI_neg]
            exact this
        · have hhe : heT T (tkS T q) = -1 := by unfold heT; rw [if_neg hlt]
          have := h289 0 (ckT_0.mpr (by omega))
          rw [hhe] at gh
          simp (disch := first | assumption | omega) only [↓b_hid, bH_some, ↓hid_W, W_some, I3_a, I3_s, I3_m, I3_n, I3_l, I3_lt, I3_le, I3_e, I3_dv, I3_rm, I3_mx, I3_mn, I3_ab, cI, bI_0, bI_1, rZ_b, up_same, up_row, up_col, xr_some, LQ_r, LQ_l, Int.sub_self, Int.add_zero, Int.zero_add, Int.sub_zero, Int.neg_neg, not_true_eq_false, not_false_eq_true, Int.add_sub_cancel, ↓ite_iH, iH_t, iH_f, bH_iH, ↓bH_bind, xr_iH, ↓xr_bind, W_iH, WI_t, WI_f, gI_189, pI_189, iO_189, gR_189_0, aI_190, sI_190, gR_189_1, aI_191, sI_191, gR_189_3, aI_192, gR_189_10, aI_193, sI_193, gR_189_11, aI_194, sI_194, gR_189_13, aI_195, sI_195, gR_189_15, aI_196, sI_196, gR_189_17, aI_197, sI_197, gR_189_18, aI_198, sI_198, gR_189_19, aI_199, sI_199, gR_189_20, aI_200, sI_200, gR_189_23, aI_201, gR_189_24, aI_202, sI_202, gR_189_25, aI_203, sI_203, gR_189_29, aI_204, sI_204, gR_189_32, aI_205, sI_205, gR_189_35, aI_206, sI_206, pZ_189, gL_189, pL_189, e5, hz2, I6_l, hl2, gh, m_in, bI_f, iH_pos, iH_neg, WI_pos, WI_neg]
          exact this
  unfold f_X12_readsToken f_X12_readsToken_0
  refine lp_W (fun n st => ∃ (i : Int) (z' : Nat → Int → Int), st = (189, M p z' l) ∧ (0 ≤ i ∧ i ≤ T.1) ∧ (T.1 : Int) - i < n ∧ FrN z z' ∧ z' 189 5 = i ∧ tkS T q = skT T n i) (fun n st hst => ?_) (n := 200) ⟨q, z, rfl, ⟨h0, h1⟩, by omega, FrN_r z, h5, rfl⟩
  obtain ⟨i, z3, rfl, hi, hn, hF3, g5, hEn⟩ := hst
  obtain ⟨n, rfl⟩ : ∃ m, n = m + 1 := ⟨n - 1, by omega⟩
  have gh := g_here (p := p) (l := l) hT (MtB_N hF3 hM) g5 (by omega) (by omega)
  have hr := heT_r hT (i := i) (by omega)
  unfold f_X12_readsToken_0_b
  rw [skT] at hEn
  by_cases h32 : i < T.1 ∧ T.2 i = 32
  · rw [if_pos h32] at hEn
    have hhe : heT T i = 32 := by unfold heT; rw [if_pos h32.1, h32.2]
    rw [hhe] at gh
    simp (disch := first | assumption | omega) only [↓b_hid, bH_some, ↓hid_W, W_some, I3_a, I3_s, I3_m, I3_n, I3_l, I3_lt, I3_le, I3_e, I3_dv, I3_rm, I3_mx, I3_mn, I3_ab, cI, bI_0, bI_1, rZ_b, up_same, up_row, up_col, xr_some, LQ_r, LQ_l, Int.sub_self, Int.add_zero, Int.zero_add, Int.sub_zero, Int.neg_neg, not_true_eq_false, not_false_eq_true, Int.add_sub_cancel, ↓ite_iH, iH_t, iH_f, bH_iH, ↓bH_bind, xr_iH, ↓xr_bind, W_iH, WI_t, WI_f, gI_189, pI_189, iO_189, gR_189_0, aI_190, sI_190, gR_189_1, aI_191, sI_191, gR_189_3, aI_192, gR_189_10, aI_193, sI_193, gR_189_11, aI_194, sI_194, gR_189_13, aI_195, sI_195, gR_189_15, aI_196, sI_196, gR_189_17, aI_197, sI_197, gR_189_18, aI_198, sI_198, gR_189_19, aI_199, sI_199, gR_189_20, aI_200, sI_200, gR_189_23, aI_201, gR_189_24, aI_202, sI_202, gR_189_25, aI_203, sI_203, gR_189_29, aI_204, sI_204, gR_189_32, aI_205, sI_205, gR_189_35, aI_206, sI_206, pZ_189, gL_189, pL_189, gh, g5, iH_pos, iH_neg, WI_pos, WI_neg]
    exact ⟨n, by omega, i + 1, _, rfl, by omega, by omega, FrN_t hF3 (FrN_up (Or.inl rfl) _), up_same _ _ _ _, hEn⟩
  · rw [if_neg h32] at hEn
    have hne : heT T i ≠ 32 := by
      unfold heT; split
      · rename_i h; exact fun h2 => h32 ⟨h, h2⟩
      · omega
    have := rest z3 hF3 (by rw [g5, hEn])
    simp (disch := first | assumption | omega) only [↓b_hid, bH_some, ↓hid_W, W_some, I3_a, I3_s, I3_m, I3_n, I3_l, I3_lt, I3_le, I3_e, I3_dv, I3_rm, I3_mx, I3_mn, I3_ab, cI, bI_0, bI_1, rZ_b, up_same, up_row, up_col, xr_some, LQ_r, LQ_l, Int.sub_self, Int.add_zero, Int.zero_add, Int.sub_zero, Int.neg_neg, not_true_eq_false, not_false_eq_true, Int.add_sub_cancel, ↓ite_iH, iH_t, iH_f, bH_iH, ↓bH_bind, xr_iH, ↓xr_bind, W_iH, WI_t, WI_f, gI_189, pI_189, iO_189, gR_189_0, aI_190, sI_190, gR_189_1, aI_191, sI_191, gR_189_3, aI_192, gR_189_10, aI_193, sI_193, gR_189_11, aI_194, sI_194, gR_189_13, aI_195, sI_195, gR_189_15, aI_196, sI_196, gR_189_17, aI_197, sI_197, gR_189_18, aI_198, sI_198, gR_189_19, aI_199, sI_199, gR_189_20, aI_200, sI_200, gR_189_23, aI_201, gR_189_24, aI_202, sI_202, gR_189_25, aI_203, sI_203, gR_189_29, aI_204, sI_204, gR_189_32, aI_205, sI_205, gR_189_35, aI_206, sI_206, pZ_189, gL_189, pL_189, gh, iH_pos, iH_neg, WI_pos, WI_neg]
    refine W_xr ?_
    simp only [LQ_r]
    exact this
end
