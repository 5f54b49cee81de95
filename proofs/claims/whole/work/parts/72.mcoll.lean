/-! The model lays a train over another one. -/
section
variable {p : Nat → Nat} {z l : Nat → Int → Int}
def Lo (z : Nat → Int → Int) (O : List Int) : Prop := Ld z O.length (lf O)
theorem Lo_add {O : List Int} {v : Int} (h : Lo z O) : Lo (up (up z 195 O.length v) 189 14 (O.length + 1)) (O ++ [v]) := by
  obtain ⟨a, b⟩ := h
  refine ⟨by rw [up_same]; simp, fun i i0 i1 => ?_⟩
  rw [lf_app i0, up_row (by decide)]
  simp at i1
  by_cases hi : i < O.length
  · rw [if_pos hi, up_col (by omega)]; exact b i i0 hi
  · have : i = O.length := by omega
    rw [if_neg hi, if_pos this, this, up_same]
theorem Lo_last {O : List Int} {v w : Int} (h : Lo z (O ++ [v])) : Lo (up z 195 O.length w) (O ++ [w]) ∧ z 195 O.length = v := by
  obtain ⟨a, b⟩ := h
  refine ⟨⟨by rw [up_row (by decide), a]; simp, fun i i0 i1 => ?_⟩, ?_⟩
  · rw [lf_app i0]
    simp at i1
    by_cases hi : i < O.length
    · rw [if_pos hi, up_col (by omega), b i i0 (by simp; omega), lf_app i0, if_pos hi]
    · have : i = O.length := by omega
      rw [if_neg hi, if_pos this, this, up_same]
  · rw [b _ (by omega) (by simp; omega), lf_app (by omega), if_neg (by omega), if_pos rfl]
def FrV (z z' : Nat → Int → Int) : Prop := (∀ k, k ≠ 189 → k ≠ 195 → k ≠ 197 → k ≠ 198 → z' k = z k) ∧ ∀ j, j ≠ 14 → z' 189 j = z 189 j
/-- from and to of the marks: of x all, of y the first ones -/
def Ft (z : Nat → Int → Int) (x y : Dn) (o : Int) (a b : Nat) : Prop := (∀ m : Nat, m < a → z 197 m = Tm x (2 * m) ∧ z 198 m = Tm x (2 * m + 1)) ∧ ∀ m : Nat, m < b → z 197 ((a : Int) + m) = o + Tm y (2 * m) ∧ z 198 ((a : Int) + m) = o + Tm y (2 * m + 1)
/-- the merging's state -/
def MgI (x y : Dn) (o : Int) (a b : Nat) (D : List Int) (p : Nat → Nat) (z0 l : Nat → Int → Int) (m : Nat) (st : Nat × Int32 × Int32 × Int32 × Int32 × Int32 × MS) : Prop := ∃ (i j : Nat) (e : Int) (O : List Int) (z' : Nat → Int → Int), st = (189, I3 a, I3 (a + b), I3 i, I3 (a + j), I3 e, M p z' l) ∧ i ≤ a ∧ j ≤ b ∧ m = (a - i) + (b - j) ∧ FrV z0 z' ∧ Ft z' x y o a b ∧ Lo z' O ∧ (0 ≤ e ∧ e ≤ 13000000) ∧ ((O = [] ∧ i + j = 0 ∧ e = 0 ∧ D = dall (Lr x y o (2 * i) (2 * j))) ∨ (0 < i + j ∧ O.length + 1 ≤ 2 * (i + j) ∧ ∃ (pre : List Int) (f : Int), (0 ≤ f ∧ f ≤ e) ∧ O = pre ++ [e - f] ∧ D = pre ++ dr f e (Lr x y o (2 * i) (2 * j))))
theorem Ft_up {x y : Dn} {o : Int} {a b : Nat} {k : Nat} {i v : Int} (hk : k ≠ 197) (hk' : k ≠ 198) (h : Ft z x y o a b) : Ft (up z k i v) x y o a b := by
  unfold Ft; rw [up_row (by omega), up_row (by omega)]; exact h
theorem FrV_up {z0 : Nat → Int → Int} {k : Nat} {i v : Int} (hk : k = 195 ∨ k = 189 ∧ i = 14) (h : FrV z0 z) : FrV z0 (up z k i v) := by
  refine ⟨fun c c0 c1 c2 c3 => ?_, fun j hj => ?_⟩
  · rw [up_row (by omega)]; exact h.1 c c0 c1 c2 c3
  · rcases hk with rfl | ⟨rfl, rfl⟩
    · rw [up_row (by decide)]; exact h.2 j hj
    · rw [up_col hj]; exact h.2 j hj
set_option maxHeartbeats 8000000 in
theorem m_merge {x y : Dn} {o : Int} {a b : Nat} (hx : Gd x) (hy : Gd y) (ho : 0 ≤ o ∧ o ≤ 60000) (ha : x.1 = 2 * (a : Int) - 1) (hb : y.1 = 2 * (b : Int) - 1) (ha1 : 1 ≤ a) (hb1 : 1 ≤ b) {n : Nat} {st : Nat × Int32 × Int32 × Int32 × Int32 × Int32 × MS} {z0 : Nat → Int → Int} {D : List Int} (hst : MgI x y o a b D p z0 l n st) : WP (f_X12_overlays_145_b st.1 st.2.1 st.2.2.1 st.2.2.2.1 st.2.2.2.2.1 st.2.2.2.2.2.1 st.2.2.2.2.2.2) (LQ (fun μ => ∃ z', μ = M p z' l ∧ Lo z' D ∧ FrV z0 z') (MgI x y o a b D p z0 l) n) := by
  obtain ⟨i, j, e, O, z', rfl, hi, hj, rfl, hF, hFt, hLo, he, hD⟩ := hst
  have hx1 := hx.1
  have hy1 := hy.1
  have hLs := Lr_s (x := x) (y := y) (o := o) hx1.2 hy1.2 (2 * i) (2 * j)
  have hO14 : z' 189 14 = O.length := hLo.1
  have hOl : O.length ≤ 2 * (i + j) := by
    rcases hD with ⟨h, h2, _⟩ | ⟨h1, h2, _⟩
    · rw [h]; simp
    · omega
  simp only
  -- the next mark goes in
  have take : ∀ (i2 j2 : Nat) (ei : Int) (c d : Int) (R : List (Int × Int)), i2 + j2 = i + j + 1 → i2 ≤ a → j2 ≤ b → (a - i2) + (b - j2) < (a - i) + (b - j) → 0 ≤ ei → ei < 200 → z' 197 ei = c → z' 198 ei = d → 0 ≤ c → c < d → d ≤ 13000000 → Lr x y o (2 * i) (2 * j) = (c, d) :: Lr x y o (2 * i2) (2 * j2) → ∀ s0 s1 : Int, s1 + s0 = a + j2 → WP (f_X12_overlays_236 189 (I3 a) (I3 (a + b)) (I3 i2) (I3 e) (I3 ei) (I3 s0) (I3 s1) (M p z' l)) (LQ (fun μ => ∃ z', μ = M p z' l ∧ Lo z' D ∧ FrV z0 z') (MgI x y o a b D p z0 l) ((a - i) + (b - j))) := by
    intro i2 j2 ei c d R hij hi2 hj2 hm e0 e1 hc hd c0 c1 c2 hLr s0 s1 hs
    have done : ∀ (z2 : Nat → Int → Int) (O2 : List Int) (e2 : Int), FrV z0 z2 → Ft z2 x y o a b → Lo z2 O2 → (0 ≤ e2 ∧ e2 ≤ 13000000) → (O2.length + 1 ≤ 2 * (i2 + j2) ∧ ∃ (pre : List Int) (f : Int), (0 ≤ f ∧ f ≤ e2) ∧ O2 = pre ++ [e2 - f] ∧ D = pre ++ dr f e2 (Lr x y o (2 * i2) (2 * j2))) → WP (f_X12_overlays_395 189 (I3 a) (I3 (a + b)) (I3 i2) (I3 (a + j2)) (I3 e2) (M p z2 l)) (LQ (fun μ => ∃ z', μ = M p z' l ∧ Lo z' D ∧ FrV z0 z') (MgI x y o a b D p z0 l) ((a - i) + (b - j))) := by
      intro z2 O2 e2 k1 k2 k3 k4 k5
      unfold f_X12_overlays_395
      simp (disch := first | assumption | omega) only [↓b_hid, bH_some, ↓hid_W, W_some, I3_a, I3_s, I3_m, I3_n, I3_l, I3_lt, I3_le, I3_e, I3_dv, I3_rm, I3_mx, I3_mn, I3_ab, cI, bI_0, bI_1, rZ_b, up_same, up_row, up_col, xr_some, LQ_r, LQ_l, Int.sub_self, Int.add_zero, Int.zero_add, Int.sub_zero, Int.neg_neg, not_true_eq_false, not_false_eq_true, Int.add_sub_cancel, ↓ite_iH, iH_t, iH_f, bH_iH, ↓bH_bind, xr_iH, ↓xr_bind, W_iH, WI_t, WI_f]
      exact ⟨_, hm, i2, j2, e2, O2, z2, rfl, hi2, hj2, rfl, k1, k2, k3, k4, Or.inr ⟨by omega, k5⟩⟩
    have e371 : ∀ (z2 : Nat → Int → Int) (O2 : List Int), FrV z0 z2 → Ft z2 x y o a b → Lo z2 O2 → (∃ (pre : List Int) (f : Int), (0 ≤ f ∧ f ≤ (if e < d then d else e)) ∧ O2 = pre ++ [(if e < d then d else e) - f] ∧ D = pre ++ dr f (if e < d then d else e) (Lr x y o (2 * i2) (2 * j2))) → O2.length + 1 ≤ 2 * (i2 + j2) → z2 198 ei = d → WP (f_X12_overlays_371 189 (I3 a) (I3 (a + b)) (I3 i2) (I3 (a + j2)) (I3 e) (I3 ei) (M p z2 l)) (LQ (fun μ => ∃ z', μ = M p z' l ∧ Lo z' D ∧ FrV z0 z') (MgI x y o a b D p z0 l) ((a - i) + (b - j))) := by
      intro z2 O2 k1 k2 k3 k4 k5 k6
      unfold f_X12_overlays_371
      by_cases hde : e < d
      · rw [if_pos hde] at k4
        simp (disch := first | assumption | omega) only [↓b_hid, bH_some, ↓hid_W, W_some, I3_a, I3_s, I3_m, I3_n, I3_l, I3_lt, I3_le, I3_e, I3_dv, I3_rm, I3_mx, I3_mn, I3_ab, cI, bI_0, bI_1, rZ_b, up_same, up_row, up_col, xr_some, LQ_r, LQ_l, Int.sub_self, Int.add_zero, Int.zero_add, Int.sub_zero, Int.neg_neg, not_true_eq_false, not_false_eq_true, Int.add_sub_cancel, ↓ite_iH, iH_t, iH_f, bH_iH, ↓bH_bind, xr_iH, ↓xr_bind, W_iH, WI_t, WI_f, gI_189, pI_189, iO_189, gR_189_0, aI_190, sI_190, gR_189_1, aI_191, sI_191, gR_189_3, aI_192, gR_189_10, aI_193, sI_193, gR_189_11, aI_194, sI_194, gR_189_13, aI_195, sI_195, gR_189_15, aI_196, sI_196, gR_189_17, aI_197, sI_197, gR_189_18, aI_198, sI_198, gR_189_19, aI_199, sI_199, gR_189_20, aI_200, sI_200, gR_189_23, aI_201, gR_189_24, aI_202, sI_202, gR_189_25, aI_203, sI_203, gR_189_29, aI_204, sI_204, gR_189_32, aI_205, sI_205, gR_189_35, aI_206, sI_206, pZ_189, gL_189, pL_189, k6, iH_pos, iH_neg, WI_pos, WI_neg]
        exact done z2 O2 d k1 k2 k3 (by omega) ⟨k5, k4⟩
      · rw [if_neg hde] at k4
        simp (disch := first | assumption | omega) only [↓b_hid, bH_some, ↓hid_W, W_some, I3_a, I3_s, I3_m, I3_n, I3_l, I3_lt, I3_le, I3_e, I3_dv, I3_rm, I3_mx, I3_mn, I3_ab, cI, bI_0, bI_1, rZ_b, up_same, up_row, up_col, xr_some, LQ_r, LQ_l, Int.sub_self, Int.add_zero, Int.zero_add, Int.sub_zero, Int.neg_neg, not_true_eq_false, not_false_eq_true, Int.add_sub_cancel, ↓ite_iH, iH_t, iH_f, bH_iH, ↓bH_bind, xr_iH, ↓xr_bind, W_iH, WI_t, WI_f, gI_189, pI_189, iO_189, gR_189_0, aI_190, sI_190, gR_189_1, aI_191, sI_191, gR_189_3, aI_192, gR_189_10, aI_193, sI_193, gR_189_11, aI_194, sI_194, gR_189_13, aI_195, sI_195, gR_189_15, aI_196, sI_196, gR_189_17, aI_197, sI_197, gR_189_18, aI_198, sI_198, gR_189_19, aI_199, sI_199, gR_189_20, aI_200, sI_200, gR_189_23, aI_201, gR_189_24, aI_202, sI_202, gR_189_25, aI_203, sI_203, gR_189_29, aI_204, sI_204, gR_189_32, aI_205, sI_205, gR_189_35, aI_206, sI_206, pZ_189, gL_189, pL_189, k6, iH_pos, iH_neg, WI_pos, WI_neg]
        exact done z2 O2 e k1 k2 k3 he ⟨k5, k4⟩
    unfold f_X12_overlays_236
    rcases hD with ⟨hO, hij0, he0, hDl⟩ | ⟨hij0, hOlen, pre, f, hf, hO, hDl⟩
    · -- the first mark
      have hlen0 : O.length = 0 := by rw [hO]; rfl
      have h14 : z' 189 14 = 0 := by rw [hO14, hlen0]; rfl
      have hadd := Lo_add (v := d - c) hLo
      rw [hlen0, hO] at hadd
      simp (disch := first | assumption | omega) only [↓b_hid, bH_some, ↓hid_W, W_some, I3_a, I3_s, I3_m, I3_n, I3_l, I3_lt, I3_le, I3_e, I3_dv, I3_rm, I3_mx, I3_mn, I3_ab, cI, bI_0, bI_1, rZ_b, up_same, up_row, up_col, xr_some, LQ_r, LQ_l, Int.sub_self, Int.add_zero, Int.zero_add, Int.sub_zero, Int.neg_neg, not_true_eq_false, not_false_eq_true, Int.add_sub_cancel, ↓ite_iH, iH_t, iH_f, bH_iH, ↓bH_bind, xr_iH, ↓xr_bind, W_iH, WI_t, WI_f, gI_189, pI_189, iO_189, gR_189_0, aI_190, sI_190, gR_189_1, aI_191, sI_191, gR_189_3, aI_192, gR_189_10, aI_193, sI_193, gR_189_11, aI_194, sI_194, gR_189_13, aI_195, sI_195, gR_189_15, aI_196, sI_196, gR_189_17, aI_197, sI_197, gR_189_18, aI_198, sI_198, gR_189_19, aI_199, sI_199, gR_189_20, aI_200, sI_200, gR_189_23, aI_201, gR_189_24, aI_202, sI_202, gR_189_25, aI_203, sI_203, gR_189_29, aI_204, sI_204, gR_189_32, aI_205, sI_205, gR_189_35, aI_206, sI_206, pZ_189, gL_189, pL_189, h14, hs, f_X12_overlays_301, f_X12_overlays_337, hd, hc, iH_pos, iH_neg, WI_pos, WI_neg]
      rw [hLr] at hDl
      have hDl : D = dr c d (Lr x y o (2 * i2) (2 * j2)) := hDl
      have hde : e < d := by omega
      refine e371 _ ([] ++ [d - c]) (FrV_up (Or.inr ⟨rfl, rfl⟩) (FrV_up (Or.inl rfl) hF)) (Ft_up (by decide) (by decide) (Ft_up (by decide) (by decide) hFt)) hadd ?_ ?_ (by simp (disch := omega) only [up_row]; exact hd)
      · rw [if_pos hde]
        exact ⟨[], c, by omega, rfl, hDl⟩
      · simp; omega
    · have h14 : z' 189 14 = (pre.length : Int) + 1 := by rw [hO14, hO]; simp
      have hlen : O.length = pre.length + 1 := by rw [hO]; simp
      rw [hLr] at hDl
      by_cases hce : c ≤ e
      · -- one with the mark under way
        rw [hO] at hLo
        obtain ⟨hl1, hl2⟩ := Lo_last (w := (if e < d then d else e) - f) hLo
        have hex : (pre.length : Int) + 1 - 1 = pre.length := by omega
        by_cases hde : e < d
        · rw [if_pos hde] at hl1
          have hv : e - f + (d - e) = d - f := by omega
          simp (disch := first | assumption | omega) only [↓b_hid, bH_some, ↓hid_W, W_some, I3_a, I3_s, I3_m, I3_n, I3_l, I3_lt, I3_le, I3_e, I3_dv, I3_rm, I3_mx, I3_mn, I3_ab, cI, bI_0, bI_1, rZ_b, up_same, up_row, up_col, xr_some, LQ_r, LQ_l, Int.sub_self, Int.add_zero, Int.zero_add, Int.sub_zero, Int.neg_neg, not_true_eq_false, not_false_eq_true, Int.add_sub_cancel, ↓ite_iH, iH_t, iH_f, bH_iH, ↓bH_bind, xr_iH, ↓xr_bind, W_iH, WI_t, WI_f, gI_189, pI_189, iO_189, gR_189_0, aI_190, sI_190, gR_189_1, aI_191, sI_191, gR_189_3, aI_192, gR_189_10, aI_193, sI_193, gR_189_11, aI_194, sI_194, gR_189_13, aI_195, sI_195, gR_189_15, aI_196, sI_196, gR_189_17, aI_197, sI_197, gR_189_18, aI_198, sI_198, gR_189_19, aI_199, sI_199, gR_189_20, aI_200, sI_200, gR_189_23, aI_201, gR_189_24, aI_202, sI_202, gR_189_25, aI_203, sI_203, gR_189_29, aI_204, sI_204, gR_189_32, aI_205, sI_205, gR_189_35, aI_206, sI_206, pZ_189, gL_189, pL_189, h14, hs, hc, hd, hex, hl2, f_X12_overlays_296, hv, iH_pos, iH_neg, WI_pos, WI_neg]
          refine e371 _ (pre ++ [d - f]) (FrV_up (Or.inl rfl) hF) (Ft_up (by decide) (by decide) hFt) hl1 ?_ ?_ (by rw [up_row (by decide)]; exact hd)
          · rw [if_pos hde]
            refine ⟨pre, f, by omega, rfl, ?_⟩
            rw [hDl, dr, if_pos hce, if_pos hde]
          · simp; omega
        · rw [if_neg hde] at hl1
          have hv : e - f + 0 = e - f := by omega
          simp (disch := first | assumption | omega) only [↓b_hid, bH_some, ↓hid_W, W_some, I3_a, I3_s, I3_m, I3_n, I3_l, I3_lt, I3_le, I3_e, I3_dv, I3_rm, I3_mx, I3_mn, I3_ab, cI, bI_0, bI_1, rZ_b, up_same, up_row, up_col, xr_some, LQ_r, LQ_l, Int.sub_self, Int.add_zero, Int.zero_add, Int.sub_zero, Int.neg_neg, not_true_eq_false, not_false_eq_true, Int.add_sub_cancel, ↓ite_iH, iH_t, iH_f, bH_iH, ↓bH_bind, xr_iH, ↓xr_bind, W_iH, WI_t, WI_f, gI_189, pI_189, iO_189, gR_189_0, aI_190, sI_190, gR_189_1, aI_191, sI_191, gR_189_3, aI_192, gR_189_10, aI_193, sI_193, gR_189_11, aI_194, sI_194, gR_189_13, aI_195, sI_195, gR_189_15, aI_196, sI_196, gR_189_17, aI_197, sI_197, gR_189_18, aI_198, sI_198, gR_189_19, aI_199, sI_199, gR_189_20, aI_200, sI_200, gR_189_23, aI_201, gR_189_24, aI_202, sI_202, gR_189_25, aI_203, sI_203, gR_189_29, aI_204, sI_204, gR_189_32, aI_205, sI_205, gR_189_35, aI_206, sI_206, pZ_189, gL_189, pL_189, h14, hs, hc, hd, hex, hl2, f_X12_overlays_296, hv, iH_pos, iH_neg, WI_pos, WI_neg]
          refine e371 _ (pre ++ [e - f]) (FrV_up (Or.inl rfl) hF) (Ft_up (by decide) (by decide) hFt) hl1 ?_ ?_ (by rw [up_row (by decide)]; exact hd)
          · rw [if_neg hde]
            refine ⟨pre, f, hf, rfl, ?_⟩
            rw [hDl, dr, if_pos hce, if_neg hde]
          · simp; omega
      · -- a space, and a mark of its own
        have hde : e < d := by omega
        have g1 := Lo_add (v := c - e) hLo
        have hl2 : ((O ++ [c - e]).length : Int) = O.length + 1 := by simp
        have g2 := Lo_add (v := d - c) g1
        rw [hl2] at g2
        have hO1 : (O.length : Int) = pre.length + 1 := by omega
        simp (disch := first | assumption | omega) only [↓b_hid, bH_some, ↓hid_W, W_some, I3_a, I3_s, I3_m, I3_n, I3_l, I3_lt, I3_le, I3_e, I3_dv, I3_rm, I3_mx, I3_mn, I3_ab, cI, bI_0, bI_1, rZ_b, up_same, up_row, up_col, xr_some, LQ_r, LQ_l, Int.sub_self, Int.add_zero, Int.zero_add, Int.sub_zero, Int.neg_neg, not_true_eq_false, not_false_eq_true, Int.add_sub_cancel, ↓ite_iH, iH_t, iH_f, bH_iH, ↓bH_bind, xr_iH, ↓xr_bind, W_iH, WI_t, WI_f, gI_189, pI_189, iO_189, gR_189_0, aI_190, sI_190, gR_189_1, aI_191, sI_191, gR_189_3, aI_192, gR_189_10, aI_193, sI_193, gR_189_11, aI_194, sI_194, gR_189_13, aI_195, sI_195, gR_189_15, aI_196, sI_196, gR_189_17, aI_197, sI_197, gR_189_18, aI_198, sI_198, gR_189_19, aI_199, sI_199, gR_189_20, aI_200, sI_200, gR_189_23, aI_201, gR_189_24, aI_202, sI_202, gR_189_25, aI_203, sI_203, gR_189_29, aI_204, sI_204, gR_189_32, aI_205, sI_205, gR_189_35, aI_206, sI_206, pZ_189, gL_189, pL_189, hO14, hs, hc, hd, f_X12_overlays_301, f_X12_overlays_337, iH_pos, iH_neg, WI_pos, WI_neg]
        refine e371 _ (O ++ [c - e] ++ [d - c]) (FrV_up (Or.inr ⟨rfl, rfl⟩) (FrV_up (Or.inl rfl) (FrV_up (Or.inr ⟨rfl, rfl⟩) (FrV_up (Or.inl rfl) hF)))) (Ft_up (by decide) (by decide) (Ft_up (by decide) (by decide) (Ft_up (by decide) (by decide) (Ft_up (by decide) (by decide) hFt)))) g2 ?_ ?_ (by simp (disch := omega) only [up_row]; exact hd)
        · rw [if_pos hde]
          refine ⟨O ++ [c - e], c, by omega, rfl, ?_⟩
          rw [hDl, dr, if_neg hce, hO]; simp
        · simp; omega
  have fx : (i : Int) < a → z' 197 i = Tm x (2 * i) ∧ z' 198 i = Tm x (2 * i + 1) := fun h => hFt.1 i (by omega)
  have fy : (j : Int) < b → z' 197 ((a : Int) + j) = o + Tm y (2 * j) ∧ z' 198 ((a : Int) + j) = o + Tm y (2 * j + 1) := fun h => hFt.2 j (by omega)
  have c2i : ((2 * i : Nat) : Int) = 2 * (i : Int) := by omega
  have c2j : ((2 * j : Nat) : Int) = 2 * (j : Int) := by omega
  have tx := Tm_r hx (2 * i)
  have tx1 := Tm_r hx (2 * i + 1)
  have ty := Tm_r hy (2 * j)
  have ty1 := Tm_r hy (2 * j + 1)
  have first : (i : Int) < a → (y.1 ≤ ((2 * j : Nat) : Int) ∨ Tm x (2 * i) ≤ o + Tm y (2 * j)) → WP (f_X12_overlays_188 189 (I3 a) (I3 (a + b)) (I3 i) (I3 (a + j)) (I3 e) (M p z' l)) (LQ (fun μ => ∃ z', μ = M p z' l ∧ Lo z' D ∧ FrV z0 z') (MgI x y o a b D p z0 l) ((a - i) + (b - j))) := by
    intro h1 h2
    have hlt := Tm_lt hx (i := 2 * i) (by omega)
    rw [if_pos ⟨by omega, h2⟩] at hLs
    obtain ⟨f1, f2⟩ := fx h1
    have := take (i + 1) j i (Tm x (2 * i)) (Tm x (2 * i + 1)) [] (by omega) (by omega) hj (by omega) (by omega) (by omega) f1 f2 (by omega) hlt (by omega) (by rw [hLs]; rfl) 0 ((a : Int) + j) (by omega)
    rw [Int.natCast_add] at this
    unfold f_X12_overlays_188 f_X12_overlays_193 f_X12_overlays_207 f_X12_overlays_221
    simp (disch := first | assumption | omega) only [↓b_hid, bH_some, ↓hid_W, W_some, I3_a, I3_s, I3_m, I3_n, I3_l, I3_lt, I3_le, I3_e, I3_dv, I3_rm, I3_mx, I3_mn, I3_ab, cI, bI_0, bI_1, rZ_b, up_same, up_row, up_col, xr_some, LQ_r, LQ_l, Int.sub_self, Int.add_zero, Int.zero_add, Int.sub_zero, Int.neg_neg, not_true_eq_false, not_false_eq_true, Int.add_sub_cancel, ↓ite_iH, iH_t, iH_f, bH_iH, ↓bH_bind, xr_iH, ↓xr_bind, W_iH, WI_t, WI_f, iH_pos, iH_neg, WI_pos, WI_neg]
    exact this
  have second : (j : Int) < b → ¬((i : Int) < a ∧ Tm x (2 * i) ≤ o + Tm y (2 * j)) → WP (f_X12_overlays_192 189 (I3 a) (I3 (a + b)) (I3 i) (I3 (a + j)) (I3 e) (M p z' l)) (LQ (fun μ => ∃ z', μ = M p z' l ∧ Lo z' D ∧ FrV z0 z') (MgI x y o a b D p z0 l) ((a - i) + (b - j))) := by
    intro h1 h2
    have hlt := Tm_lt hy (i := 2 * j) (by omega)
    rw [if_neg (by omega), if_pos (by omega)] at hLs
    obtain ⟨f1, f2⟩ := fy h1
    have := take i (j + 1) ((a : Int) + j) (o + Tm y (2 * j)) (o + Tm y (2 * j + 1)) [] (by omega) hi (by omega) (by omega) (by omega) (by omega) f1 f2 (by omega) (by omega) (by omega) (by rw [hLs]; rfl) 1 ((a : Int) + j) (by omega)
    unfold f_X12_overlays_192 f_X12_overlays_193 f_X12_overlays_207 f_X12_overlays_221
    simp (disch := first | assumption | omega) only [↓b_hid, bH_some, ↓hid_W, W_some, I3_a, I3_s, I3_m, I3_n, I3_l, I3_lt, I3_le, I3_e, I3_dv, I3_rm, I3_mx, I3_mn, I3_ab, cI, bI_0, bI_1, rZ_b, up_same, up_row, up_col, xr_some, LQ_r, LQ_l, Int.sub_self, Int.add_zero, Int.zero_add, Int.sub_zero, Int.neg_neg, not_true_eq_false, not_false_eq_true, Int.add_sub_cancel, ↓ite_iH, iH_t, iH_f, bH_iH, ↓bH_bind, xr_iH, ↓xr_bind, W_iH, WI_t, WI_f, iH_pos, iH_neg, WI_pos, WI_neg]
    exact this
  have next : ((i : Int) < a ∨ (j : Int) < b) → WP (f_X12_overlays_158 189 (I3 a) (I3 (a + b)) (I3 i) (I3 (a + j)) (I3 e) (M p z' l)) (LQ (fun μ => ∃ z', μ = M p z' l ∧ Lo z' D ∧ FrV z0 z') (MgI x y o a b D p z0 l) ((a - i) + (b - j))) := by
    intro hor
    unfold f_X12_overlays_158
    by_cases h1 : (j : Int) = b
    · have hf := first (by omega) (Or.inl (by omega))
      simp (disch := first | assumption | omega) only [↓b_hid, bH_some, ↓hid_W, W_some, I3_a, I3_s, I3_m, I3_n, I3_l, I3_lt, I3_le, I3_e, I3_dv, I3_rm, I3_mx, I3_mn, I3_ab, cI, bI_0, bI_1, rZ_b, up_same, up_row, up_col, xr_some, LQ_r, LQ_l, Int.sub_self, Int.add_zero, Int.zero_add, Int.sub_zero, Int.neg_neg, not_true_eq_false, not_false_eq_true, Int.add_sub_cancel, ↓ite_iH, iH_t, iH_f, bH_iH, ↓bH_bind, xr_iH, ↓xr_bind, W_iH, WI_t, WI_f, iH_pos, iH_neg, WI_pos, WI_neg]
      exact hf
    · by_cases h2 : (i : Int) < a
      · obtain ⟨f1, f2⟩ := fx h2
        obtain ⟨g1, g2⟩ := fy (by omega)
        by_cases h3 : Tm x (2 * i) ≤ o + Tm y (2 * j)
        · have hf := first h2 (Or.inr h3)
          simp (disch := first | assumption | omega) only [↓b_hid, bH_some, ↓hid_W, W_some, I3_a, I3_s, I3_m, I3_n, I3_l, I3_lt, I3_le, I3_e, I3_dv, I3_rm, I3_mx, I3_mn, I3_ab, cI, bI_0, bI_1, rZ_b, up_same, up_row, up_col, xr_some, LQ_r, LQ_l, Int.sub_self, Int.add_zero, Int.zero_add, Int.sub_zero, Int.neg_neg, not_true_eq_false, not_false_eq_true, Int.add_sub_cancel, ↓ite_iH, iH_t, iH_f, bH_iH, ↓bH_bind, xr_iH, ↓xr_bind, W_iH, WI_t, WI_f, gI_189, pI_189, iO_189, gR_189_0, aI_190, sI_190, gR_189_1, aI_191, sI_191, gR_189_3, aI_192, gR_189_10, aI_193, sI_193, gR_189_11, aI_194, sI_194, gR_189_13, aI_195, sI_195, gR_189_15, aI_196, sI_196, gR_189_17, aI_197, sI_197, gR_189_18, aI_198, sI_198, gR_189_19, aI_199, sI_199, gR_189_20, aI_200, sI_200, gR_189_23, aI_201, gR_189_24, aI_202, sI_202, gR_189_25, aI_203, sI_203, gR_189_29, aI_204, sI_204, gR_189_32, aI_205, sI_205, gR_189_35, aI_206, sI_206, pZ_189, gL_189, pL_189, f1, g1, iH_pos, iH_neg, WI_pos, WI_neg]
          exact hf
        · have hf := second (by omega) (by omega)
          simp (disch := first | assumption | omega) only [↓b_hid, bH_some, ↓hid_W, W_some, I3_a, I3_s, I3_m, I3_n, I3_l, I3_lt, I3_le, I3_e, I3_dv, I3_rm, I3_mx, I3_mn, I3_ab, cI, bI_0, bI_1, rZ_b, up_same, up_row, up_col, xr_some, LQ_r, LQ_l, Int.sub_self, Int.add_zero, Int.zero_add, Int.sub_zero, Int.neg_neg, not_true_eq_false, not_false_eq_true, Int.add_sub_cancel, ↓ite_iH, iH_t, iH_f, bH_iH, ↓bH_bind, xr_iH, ↓xr_bind, W_iH, WI_t, WI_f, gI_189, pI_189, iO_189, gR_189_0, aI_190, sI_190, gR_189_1, aI_191, sI_191, gR_189_3, aI_192, gR_189_10, aI_193, sI_193, gR_189_11, aI_194, sI_194, gR_189_13, aI_195, sI_195, gR_189_15, aI_196, sI_196, gR_189_17, aI_197, sI_197, gR_189_18, aI_198, sI_198, gR_189_19, aI_199, sI_199, gR_189_20, aI_200, sI_200, gR_189_23, aI_201, gR_189_24, aI_202, sI_202, gR_189_25, aI_203, sI_203, gR_189_29, aI_204, sI_204, gR_189_32, aI_205, sI_205, gR_189_35, aI_206, sI_206, pZ_189, gL_189, pL_189, f1, g1, iH_pos, iH_neg, WI_pos, WI_neg]
          exact hf
      · have hf := second (by omega) (by omega)
        simp (disch := first | assumption | omega) only [↓b_hid, bH_some, ↓hid_W, W_some, I3_a, I3_s, I3_m, I3_n, I3_l, I3_lt, I3_le, I3_e, I3_dv, I3_rm, I3_mx, I3_mn, I3_ab, cI, bI_0, bI_1, rZ_b, up_same, up_row, up_col, xr_some, LQ_r, LQ_l, Int.sub_self, Int.add_zero, Int.zero_add, Int.sub_zero, Int.neg_neg, not_true_eq_false, not_false_eq_true, Int.add_sub_cancel, ↓ite_iH, iH_t, iH_f, bH_iH, ↓bH_bind, xr_iH, ↓xr_bind, W_iH, WI_t, WI_f, gI_189, pI_189, iO_189, gR_189_0, aI_190, sI_190, gR_189_1, aI_191, sI_191, gR_189_3, aI_192, gR_189_10, aI_193, sI_193, gR_189_11, aI_194, sI_194, gR_189_13, aI_195, sI_195, gR_189_15, aI_196, sI_196, gR_189_17, aI_197, sI_197, gR_189_18, aI_198, sI_198, gR_189_19, aI_199, sI_199, gR_189_20, aI_200, sI_200, gR_189_23, aI_201, gR_189_24, aI_202, sI_202, gR_189_25, aI_203, sI_203, gR_189_29, aI_204, sI_204, gR_189_32, aI_205, sI_205, gR_189_35, aI_206, sI_206, pZ_189, gL_189, pL_189, iH_pos, iH_neg, WI_pos, WI_neg]
        exact hf
  unfold f_X12_overlays_145_b
  by_cases h1 : (i : Int) < a
  · have hn := next (Or.inl h1)
    simp (disch := first | assumption | omega) only [↓b_hid, bH_some, ↓hid_W, W_some, I3_a, I3_s, I3_m, I3_n, I3_l, I3_lt, I3_le, I3_e, I3_dv, I3_rm, I3_mx, I3_mn, I3_ab, cI, bI_0, bI_1, rZ_b, up_same, up_row, up_col, xr_some, LQ_r, LQ_l, Int.sub_self, Int.add_zero, Int.zero_add, Int.sub_zero, Int.neg_neg, not_true_eq_false, not_false_eq_true, Int.add_sub_cancel, ↓ite_iH, iH_t, iH_f, bH_iH, ↓bH_bind, xr_iH, ↓xr_bind, W_iH, WI_t, WI_f, iH_pos, iH_neg, WI_pos, WI_neg]
    exact hn
  · by_cases h2 : (j : Int) < b
    · have hn := next (Or.inr h2)
      simp (disch := first | assumption | omega) only [↓b_hid, bH_some, ↓hid_W, W_some, I3_a, I3_s, I3_m, I3_n, I3_l, I3_lt, I3_le, I3_e, I3_dv, I3_rm, I3_mx, I3_mn, I3_ab, cI, bI_0, bI_1, rZ_b, up_same, up_row, up_col, xr_some, LQ_r, LQ_l, Int.sub_self, Int.add_zero, Int.zero_add, Int.sub_zero, Int.neg_neg, not_true_eq_false, not_false_eq_true, Int.add_sub_cancel, ↓ite_iH, iH_t, iH_f, bH_iH, ↓bH_bind, xr_iH, ↓xr_bind, W_iH, WI_t, WI_f, iH_pos, iH_neg, WI_pos, WI_neg]
      exact hn
    · rw [if_neg (by omega), if_neg (by omega)] at hLs
      simp (disch := first | assumption | omega) only [↓b_hid, bH_some, ↓hid_W, W_some, I3_a, I3_s, I3_m, I3_n, I3_l, I3_lt, I3_le, I3_e, I3_dv, I3_rm, I3_mx, I3_mn, I3_ab, cI, bI_0, bI_1, rZ_b, up_same, up_row, up_col, xr_some, LQ_r, LQ_l, Int.sub_self, Int.add_zero, Int.zero_add, Int.sub_zero, Int.neg_neg, not_true_eq_false, not_false_eq_true, Int.add_sub_cancel, ↓ite_iH, iH_t, iH_f, bH_iH, ↓bH_bind, xr_iH, ↓xr_bind, W_iH, WI_t, WI_f, f_X12_overlays_400, iH_pos, iH_neg, WI_pos, WI_neg]
      refine ⟨z', rfl, ?_, hF⟩
      rcases hD with ⟨hO, hij0, _, hDl⟩ | ⟨hij0, hOlen, pre, f, hf, hO, hDl⟩
      · omega
      · rw [hDl, hLs]; rw [hO] at hLo; exact hLo
/-- the other train -/
def Od (z : Nat → Int → Int) (y : Dn) : Prop := z 189 16 = y.1 ∧ ∀ i, 0 ≤ i → i < y.1 → z 196 i = y.2 i
set_option maxHeartbeats 4000000 in
theorem m_overlays {x y : Dn} {o : Int} {a b : Nat} (hx : Gd x) (hy : Gd y) (ho : 0 ≤ o ∧ o ≤ 60000) (ha : x.1 = 2 * (a : Int) - 1) (hb : y.1 = 2 * (b : Int) - 1) (ha1 : 1 ≤ a) (hb1 : 1 ≤ b) (hL : Ld z x.1 x.2) (hO : Od z y) : WP (f_X12_overlays 189 (I3 o) (M p z l)) (fun μ => ∃ z', μ = M p z' l ∧ Lo z' (colD x y o) ∧ FrV z z') := by
  have hx1 := hx.1
  have hy1 := hy.1
  unfold f_X12_overlays f_X12_overlays_7
  refine lp_W (fun m st => ∃ (k : Nat) (z' : Nat → Int → Int), st = (189, I3 o, I3 ((k + 1) / 2 : Nat), I3 (Tm x k), I3 k, M p z' l) ∧ (k : Int) ≤ x.1 ∧ m = x.1.toNat - k ∧ FrV z z' ∧ z' 195 = z 195 ∧ z' 189 = z 189 ∧ Ft z' x y o ((k + 1) / 2) 0) (fun m st hst => ?_) ⟨0, z, rfl, by omega, rfl, ⟨fun _ _ _ _ _ => rfl, fun _ _ => rfl⟩, rfl, rfl, ⟨fun m hm => by omega, fun m hm => by omega⟩⟩
  obtain ⟨k, z', rfl, hk, rfl, hF, h195, h189, hFt⟩ := hst
  have e14 : z' 189 14 = x.1 := by rw [h189]; exact hL.1
  have tk := Tm_r hx k
  unfold f_X12_overlays_7_b
  by_cases hkn : (k : Int) < x.1
  · have ed : z' 195 k = x.2 k := by rw [h195]; exact hL.2 k (by omega) hkn
    have hdd : dd0 x k = x.2 k := by unfold dd0; rw [if_pos hkn]
    have hTk : Tm x k + x.2 k = Tm x (k + 1) := by rw [Tm, hdd]
    by_cases hpar : (k : Int) % 2 = 0
    · have hm1 : (k + 1) / 2 = k / 2 := by omega
      have hm2 : (k + 1 + 1) / 2 = k / 2 + 1 := by omega
      rw [hm1] at hFt
      rw [hm1]
      simp (disch := first | assumption | omega) only [↓b_hid, bH_some, ↓hid_W, W_some, I3_a, I3_s, I3_m, I3_n, I3_l, I3_lt, I3_le, I3_e, I3_dv, I3_rm, I3_mx, I3_mn, I3_ab, cI, bI_0, bI_1, rZ_b, up_same, up_row, up_col, xr_some, LQ_r, LQ_l, Int.sub_self, Int.add_zero, Int.zero_add, Int.sub_zero, Int.neg_neg, not_true_eq_false, not_false_eq_true, Int.add_sub_cancel, ↓ite_iH, iH_t, iH_f, bH_iH, ↓bH_bind, xr_iH, ↓xr_bind, W_iH, WI_t, WI_f, gI_189, pI_189, iO_189, gR_189_0, aI_190, sI_190, gR_189_1, aI_191, sI_191, gR_189_3, aI_192, gR_189_10, aI_193, sI_193, gR_189_11, aI_194, sI_194, gR_189_13, aI_195, sI_195, gR_189_15, aI_196, sI_196, gR_189_17, aI_197, sI_197, gR_189_18, aI_198, sI_198, gR_189_19, aI_199, sI_199, gR_189_20, aI_200, sI_200, gR_189_23, aI_201, gR_189_24, aI_202, sI_202, gR_189_25, aI_203, sI_203, gR_189_29, aI_204, sI_204, gR_189_32, aI_205, sI_205, gR_189_35, aI_206, sI_206, pZ_189, gL_189, pL_189, e14, ed, hTk, f_X12_overlays_48, h189, iH_pos, iH_neg, WI_pos, WI_neg]
      refine ⟨_, ?_, k + 1, up (up z' 197 ((k / 2 : Nat) : Int) (Tm x k)) 198 ((k / 2 : Nat) : Int) (Tm x (k + 1)), ?_, by omega, rfl, ⟨fun c c0 c1 c2 c3 => ?_, fun j hj => ?_⟩, ?_, ?_, ?_⟩
      · omega
      · rw [hm2, Int.natCast_add, Int.natCast_add]; rfl
      · rw [up_row c3, up_row c2]; exact hF.1 c c0 c1 c2 c3
      · rw [up_row (by decide), up_row (by decide)]; exact hF.2 j hj
      · rw [up_row (by decide), up_row (by decide)]; exact h195
      · rw [up_row (by decide), up_row (by decide)]; exact h189
      · rw [hm2]
        refine ⟨fun m hm => ?_, fun m hm => by omega⟩
        by_cases hmk : m = k / 2
        · subst hmk
          have h2k : 2 * (k / 2) = k := by omega
          rw [h2k]
          exact ⟨by rw [up_row (by decide), up_same], by rw [up_same]⟩
        · rw [up_row (by decide), up_col (by omega), up_col (by omega), up_row (by decide)]
          exact hFt.1 m (by omega)
    · have hm2 : (k + 1 + 1) / 2 = (k + 1) / 2 := by omega
      simp (disch := first | assumption | omega) only [↓b_hid, bH_some, ↓hid_W, W_some, I3_a, I3_s, I3_m, I3_n, I3_l, I3_lt, I3_le, I3_e, I3_dv, I3_rm, I3_mx, I3_mn, I3_ab, cI, bI_0, bI_1, rZ_b, up_same, up_row, up_col, xr_some, LQ_r, LQ_l, Int.sub_self, Int.add_zero, Int.zero_add, Int.sub_zero, Int.neg_neg, not_true_eq_false, not_false_eq_true, Int.add_sub_cancel, ↓ite_iH, iH_t, iH_f, bH_iH, ↓bH_bind, xr_iH, ↓xr_bind, W_iH, WI_t, WI_f, gI_189, pI_189, iO_189, gR_189_0, aI_190, sI_190, gR_189_1, aI_191, sI_191, gR_189_3, aI_192, gR_189_10, aI_193, sI_193, gR_189_11, aI_194, sI_194, gR_189_13, aI_195, sI_195, gR_189_15, aI_196, sI_196, gR_189_17, aI_197, sI_197, gR_189_18, aI_198, sI_198, gR_189_19, aI_199, sI_199, gR_189_20, aI_200, sI_200, gR_189_23, aI_201, gR_189_24, aI_202, sI_202, gR_189_25, aI_203, sI_203, gR_189_29, aI_204, sI_204, gR_189_32, aI_205, sI_205, gR_189_35, aI_206, sI_206, pZ_189, gL_189, pL_189, e14, ed, hTk, f_X12_overlays_48, iH_pos, iH_neg, WI_pos, WI_neg]
      refine ⟨_, ?_, k + 1, z', ?_, by omega, rfl, hF, h195, h189, ?_⟩
      · omega
      · rw [hm2, Int.natCast_add]; rfl
      · rw [hm2]; exact hFt
  · have hka : (k + 1) / 2 = a := by omega
    rw [hka] at hFt
    rw [hka]
    simp (disch := first | assumption | omega) only [↓b_hid, bH_some, ↓hid_W, W_some, I3_a, I3_s, I3_m, I3_n, I3_l, I3_lt, I3_le, I3_e, I3_dv, I3_rm, I3_mx, I3_mn, I3_ab, cI, bI_0, bI_1, rZ_b, up_same, up_row, up_col, xr_some, LQ_r, LQ_l, Int.sub_self, Int.add_zero, Int.zero_add, Int.sub_zero, Int.neg_neg, not_true_eq_false, not_false_eq_true, Int.add_sub_cancel, ↓ite_iH, iH_t, iH_f, bH_iH, ↓bH_bind, xr_iH, ↓xr_bind, W_iH, WI_t, WI_f, gI_189, pI_189, iO_189, gR_189_0, aI_190, sI_190, gR_189_1, aI_191, sI_191, gR_189_3, aI_192, gR_189_10, aI_193, sI_193, gR_189_11, aI_194, sI_194, gR_189_13, aI_195, sI_195, gR_189_15, aI_196, sI_196, gR_189_17, aI_197, sI_197, gR_189_18, aI_198, sI_198, gR_189_19, aI_199, sI_199, gR_189_20, aI_200, sI_200, gR_189_23, aI_201, gR_189_24, aI_202, sI_202, gR_189_25, aI_203, sI_203, gR_189_29, aI_204, sI_204, gR_189_32, aI_205, sI_205, gR_189_35, aI_206, sI_206, pZ_189, gL_189, pL_189, e14, iH_pos, iH_neg, WI_pos, WI_neg]
    refine W_xr ?_
    simp only [LQ_r]
    unfold f_X12_overlays_64 f_X12_overlays_72
    simp (disch := first | assumption | omega) only [↓b_hid, bH_some, ↓hid_W, W_some, I3_a, I3_s, I3_m, I3_n, I3_l, I3_lt, I3_le, I3_e, I3_dv, I3_rm, I3_mx, I3_mn, I3_ab, cI, bI_0, bI_1, rZ_b, up_same, up_row, up_col, xr_some, LQ_r, LQ_l, Int.sub_self, Int.add_zero, Int.zero_add, Int.sub_zero, Int.neg_neg, not_true_eq_false, not_false_eq_true, Int.add_sub_cancel, ↓ite_iH, iH_t, iH_f, bH_iH, ↓bH_bind, xr_iH, ↓xr_bind, W_iH, WI_t, WI_f]
    refine lp_W (fun m st => ∃ (k : Nat) (z2 : Nat → Int → Int), st = (189, I3 a, I3 (o + Tm y k), I3 (a + ((k + 1) / 2 : Nat)), I3 k, M p z2 l) ∧ (k : Int) ≤ y.1 ∧ m = y.1.toNat - k ∧ FrV z z2 ∧ z2 196 = z 196 ∧ z2 189 = z 189 ∧ Ft z2 x y o a ((k + 1) / 2)) (fun m st hst => ?_) ⟨0, z', ?_, by omega, rfl, hF, hF.1 196 (by decide) (by decide) (by decide) (by decide), h189, ⟨hFt.1, fun m hm => by omega⟩⟩
    · obtain ⟨k, z2, rfl, hk, rfl, hF, h196, h189, hFt⟩ := hst
      have e16 : z2 189 16 = y.1 := by rw [h189]; exact hO.1
      have tk := Tm_r hy k
      unfold f_X12_overlays_72_b
      by_cases hkn : (k : Int) < y.1
      · have ed : z2 196 k = y.2 k := by rw [h196]; exact hO.2 k (by omega) hkn
        have hdd : dd0 y k = y.2 k := by unfold dd0; rw [if_pos hkn]
        have hTk : o + Tm y k + y.2 k = o + Tm y (k + 1) := by rw [Tm, hdd]; omega
        by_cases hpar : (k : Int) % 2 = 0
        · have hm1 : (k + 1) / 2 = k / 2 := by omega
          have hm2 : (k + 1 + 1) / 2 = k / 2 + 1 := by omega
          rw [hm1] at hFt
          rw [hm1]
          simp (disch := first | assumption | omega) only [↓b_hid, bH_some, ↓hid_W, W_some, I3_a, I3_s, I3_m, I3_n, I3_l, I3_lt, I3_le, I3_e, I3_dv, I3_rm, I3_mx, I3_mn, I3_ab, cI, bI_0, bI_1, rZ_b, up_same, up_row, up_col, xr_some, LQ_r, LQ_l, Int.sub_self, Int.add_zero, Int.zero_add, Int.sub_zero, Int.neg_neg, not_true_eq_false, not_false_eq_true, Int.add_sub_cancel, ↓ite_iH, iH_t, iH_f, bH_iH, ↓bH_bind, xr_iH, ↓xr_bind, W_iH, WI_t, WI_f, gI_189, pI_189, iO_189, gR_189_0, aI_190, sI_190, gR_189_1, aI_191, sI_191, gR_189_3, aI_192, gR_189_10, aI_193, sI_193, gR_189_11, aI_194, sI_194, gR_189_13, aI_195, sI_195, gR_189_15, aI_196, sI_196, gR_189_17, aI_197, sI_197, gR_189_18, aI_198, sI_198, gR_189_19, aI_199, sI_199, gR_189_20, aI_200, sI_200, gR_189_23, aI_201, gR_189_24, aI_202, sI_202, gR_189_25, aI_203, sI_203, gR_189_29, aI_204, sI_204, gR_189_32, aI_205, sI_205, gR_189_35, aI_206, sI_206, pZ_189, gL_189, pL_189, e16, ed, hTk, f_X12_overlays_115, iH_pos, iH_neg, WI_pos, WI_neg]
          refine ⟨_, ?_, k + 1, up (up z2 197 ((a : Int) + ((k / 2 : Nat) : Int)) (o + Tm y k)) 198 ((a : Int) + ((k / 2 : Nat) : Int)) (o + Tm y (k + 1)), ?_, by omega, rfl, ⟨fun c c0 c1 c2 c3 => ?_, fun j hj => ?_⟩, ?_, ?_, ?_⟩
          · omega
          · rw [hm2, Int.natCast_add, Int.natCast_add, ← Int.add_assoc]; rfl
          · rw [up_row c3, up_row c2]; exact hF.1 c c0 c1 c2 c3
          · rw [up_row (by decide), up_row (by decide)]; exact hF.2 j hj
          · rw [up_row (by decide), up_row (by decide)]; exact h196
          · rw [up_row (by decide), up_row (by decide)]; exact h189
          · rw [hm2]
            refine ⟨fun m hm => ?_, fun m hm => ?_⟩
            · rw [up_row (by decide), up_col (by omega), up_col (by omega), up_row (by decide)]
              exact hFt.1 m hm
            · by_cases hmk : m = k / 2
              · subst hmk
                have h2k : 2 * (k / 2) = k := by omega
                rw [h2k]
                exact ⟨by rw [up_row (by decide), up_same], by rw [up_same]⟩
              · rw [up_row (by decide), up_col (by omega), up_col (by omega), up_row (by decide)]
                exact hFt.2 m (by omega)
        · have hm2 : (k + 1 + 1) / 2 = (k + 1) / 2 := by omega
          simp (disch := first | assumption | omega) only [↓b_hid, bH_some, ↓hid_W, W_some, I3_a, I3_s, I3_m, I3_n, I3_l, I3_lt, I3_le, I3_e, I3_dv, I3_rm, I3_mx, I3_mn, I3_ab, cI, bI_0, bI_1, rZ_b, up_same, up_row, up_col, xr_some, LQ_r, LQ_l, Int.sub_self, Int.add_zero, Int.zero_add, Int.sub_zero, Int.neg_neg, not_true_eq_false, not_false_eq_true, Int.add_sub_cancel, ↓ite_iH, iH_t, iH_f, bH_iH, ↓bH_bind, xr_iH, ↓xr_bind, W_iH, WI_t, WI_f, gI_189, pI_189, iO_189, gR_189_0, aI_190, sI_190, gR_189_1, aI_191, sI_191, gR_189_3, aI_192, gR_189_10, aI_193, sI_193, gR_189_11, aI_194, sI_194, gR_189_13, aI_195, sI_195, gR_189_15, aI_196, sI_196, gR_189_17, aI_197, sI_197, gR_189_18, aI_198, sI_198, gR_189_19, aI_199, sI_199, gR_189_20, aI_200, sI_200, gR_189_23, aI_201, gR_189_24, aI_202, sI_202, gR_189_25, aI_203, sI_203, gR_189_29, aI_204, sI_204, gR_189_32, aI_205, sI_205, gR_189_35, aI_206, sI_206, pZ_189, gL_189, pL_189, e16, ed, hTk, f_X12_overlays_115, iH_pos, iH_neg, WI_pos, WI_neg]
          refine ⟨_, ?_, k + 1, z2, ?_, by omega, rfl, hF, h196, h189, ?_⟩
          · omega
          · rw [hm2, Int.natCast_add]; rfl
          · rw [hm2]; exact hFt
      · have hkb : (k + 1) / 2 = b := by omega
        rw [hkb] at hFt
        rw [hkb]
        simp (disch := first | assumption | omega) only [↓b_hid, bH_some, ↓hid_W, W_some, I3_a, I3_s, I3_m, I3_n, I3_l, I3_lt, I3_le, I3_e, I3_dv, I3_rm, I3_mx, I3_mn, I3_ab, cI, bI_0, bI_1, rZ_b, up_same, up_row, up_col, xr_some, LQ_r, LQ_l, Int.sub_self, Int.add_zero, Int.zero_add, Int.sub_zero, Int.neg_neg, not_true_eq_false, not_false_eq_true, Int.add_sub_cancel, ↓ite_iH, iH_t, iH_f, bH_iH, ↓bH_bind, xr_iH, ↓xr_bind, W_iH, WI_t, WI_f, gI_189, pI_189, iO_189, gR_189_0, aI_190, sI_190, gR_189_1, aI_191, sI_191, gR_189_3, aI_192, gR_189_10, aI_193, sI_193, gR_189_11, aI_194, sI_194, gR_189_13, aI_195, sI_195, gR_189_15, aI_196, sI_196, gR_189_17, aI_197, sI_197, gR_189_18, aI_198, sI_198, gR_189_19, aI_199, sI_199, gR_189_20, aI_200, sI_200, gR_189_23, aI_201, gR_189_24, aI_202, sI_202, gR_189_25, aI_203, sI_203, gR_189_29, aI_204, sI_204, gR_189_32, aI_205, sI_205, gR_189_35, aI_206, sI_206, pZ_189, gL_189, pL_189, e16, iH_pos, iH_neg, WI_pos, WI_neg]
        refine W_xr ?_
        simp only [LQ_r]
        unfold f_X12_overlays_131
        simp (disch := first | assumption | omega) only [↓b_hid, bH_some, ↓hid_W, W_some, I3_a, I3_s, I3_m, I3_n, I3_l, I3_lt, I3_le, I3_e, I3_dv, I3_rm, I3_mx, I3_mn, I3_ab, cI, bI_0, bI_1, rZ_b, up_same, up_row, up_col, xr_some, LQ_r, LQ_l, Int.sub_self, Int.add_zero, Int.zero_add, Int.sub_zero, Int.neg_neg, not_true_eq_false, not_false_eq_true, Int.add_sub_cancel, ↓ite_iH, iH_t, iH_f, bH_iH, ↓bH_bind, xr_iH, ↓xr_bind, W_iH, WI_t, WI_f, gI_189, pI_189, iO_189, gR_189_0, aI_190, sI_190, gR_189_1, aI_191, sI_191, gR_189_3, aI_192, gR_189_10, aI_193, sI_193, gR_189_11, aI_194, sI_194, gR_189_13, aI_195, sI_195, gR_189_15, aI_196, sI_196, gR_189_17, aI_197, sI_197, gR_189_18, aI_198, sI_198, gR_189_19, aI_199, sI_199, gR_189_20, aI_200, sI_200, gR_189_23, aI_201, gR_189_24, aI_202, sI_202, gR_189_25, aI_203, sI_203, gR_189_29, aI_204, sI_204, gR_189_32, aI_205, sI_205, gR_189_35, aI_206, sI_206, pZ_189, gL_189, pL_189]
        unfold f_X12_overlays_145
        refine lp_W (MgI x y o a b (colD x y o) p z l) (fun m st hst => ?_) (n := (a - 0) + (b - 0)) ⟨0, 0, 0, [], _, ?_, by omega, by omega, rfl, FrV_up (Or.inr ⟨rfl, rfl⟩) hF, Ft_up (by decide) (by decide) hFt, ⟨up_same _ _ _ _, fun i i0 i1 => by simp at i1; omega⟩, by omega, Or.inl ⟨rfl, rfl, rfl, rfl⟩⟩
        · exact m_merge hx hy ho ha hb ha1 hb1 hst
        · rw [show ((0 : Nat) : Int) = 0 from rfl, Int.add_zero]; rfl
    · rw [show ((0 : Nat) : Int) = 0 from rfl]
      show _ = (189, I3 a, I3 (o + 0), I3 ((a : Int) + ((0 + 1) / 2 : Nat)), I3 0, M p z' l)
      rw [Int.add_zero, show (((0 + 1) / 2 : Nat) : Int) = 0 from rfl, Int.add_zero]
end
