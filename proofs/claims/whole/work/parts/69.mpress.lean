/-! Presses, the model. -/
section
variable {p : Nat → Nat} {z l : Nat → Int → Int}
/-- what the model keeps over a question -/
def FrQ (z z' : Nat → Int → Int) : Prop := (∀ k, k < 189 → z' k = z k) ∧ z' 190 = z 190 ∧ z' 191 = z 191 ∧ z' 192 = z 192 ∧ ∀ j, j < 5 → z' 189 j = z 189 j
theorem FrQ_r (z : Nat → Int → Int) : FrQ z z := ⟨fun _ _ => rfl, rfl, rfl, rfl, fun _ _ => rfl⟩
theorem FrQ_t {z z' z'' : Nat → Int → Int} (h : FrQ z z') (h' : FrQ z' z'') : FrQ z z'' := ⟨fun k hk => (h'.1 k hk).trans (h.1 k hk), h'.2.1.trans h.2.1, h'.2.2.1.trans h.2.2.1, h'.2.2.2.1.trans h.2.2.2.1, fun j hj => (h'.2.2.2.2 j hj).trans (h.2.2.2.2 j hj)⟩
theorem FrQ_D {z z' : Nat → Int → Int} (h : FrD z z') : FrQ z z' := ⟨fun k hk => h.1 k (by omega) (by omega) (by omega) (by omega), h.1 190 (by decide) (by decide) (by decide) (by decide), h.1 191 (by decide) (by decide) (by decide) (by decide), h.1 192 (by decide) (by decide) (by decide) (by decide), fun j hj => h.2 j (by omega) (by omega) (by omega)⟩
theorem FrQ_up {a : Nat} {i v : Int} (ha : a = 189 ∧ 5 ≤ i ∨ 193 ≤ a) (z : Nat → Int → Int) : FrQ z (up z a i v) := by
  refine ⟨fun k hk => up_row (by omega) _ _ _, up_row (by omega) _ _ _, up_row (by omega) _ _ _, up_row (by omega) _ _ _, fun j hj => ?_⟩
  rcases ha with ⟨rfl, h⟩ | h
  · exact up_col (by omega) _ _ _ _
  · rw [up_row (by omega)]
theorem q_opens {s : Nat} {σ : Int → Int} (hσ : z 190 = σ) (hV : V σ) (hs : s < 3) : WP (f_X12_opens 189 (I3 s) (M p z l)) (fun μ => ∃ z', μ = M p z' l ∧ FLm z' (FS (dσ σ s) (σ (83 + s)) (σ 0)) ∧ Ed z' (σ (83 + s)) (dσ σ s) (σ 2) ∧ FrQ z z') := by
  refine W_imp (m_opens hσ hV hs) ?_
  rintro _ ⟨z', rfl, h1, h2, h3, h4⟩
  exact ⟨z', rfl, h1, h2, fun k hk => h3 k (by omega) (by omega) (by omega) (by omega), h3 190 (by decide) (by decide) (by decide) (by decide), h3 191 (by decide) (by decide) (by decide) (by decide), h3 192 (by decide) (by decide) (by decide) (by decide), fun j hj => h4 j (by omega) (by omega) (by omega)⟩
def Pm (z : Nat → Int → Int) (s : PT) : Prop := z 189 30 = s.1.2.2.2.2.1 ∧ z 189 31 = s.1.2.2.2.2.2 ∧ ∀ k, 0 ≤ k → k < s.1.2.2.2.2.1 → z 204 (3 * k) = s.2.1 k ∧ z 204 (3 * k + 1) = s.2.2.1 k ∧ z 204 (3 * k + 2) = s.2.2.2 k
def PmI (σ : Int → Int) (s : Nat) (p : Nat → Nat) (z l : Nat → Int → Int) (m : Nat) (st : Nat × Int32 × Int32 × Int32 × Int32 × Int32 × MS) : Prop := ∃ (i : Nat) (z' : Nat → Int → Int), st = (189, I3 (psσ σ s i).1.2.1, I3 (psσ σ s i).1.2.2.1, I3 (psσ σ s i).1.2.2.2.1, I3 (psσ σ s i).1.1, I3 i, M p z' l) ∧ i ≤ lnσ σ s ∧ m = lnσ σ s - i ∧ Pm z' (psσ σ s i) ∧ FLm z' (FS (dσ σ s) (σ (83 + s)) (σ 0)) ∧ Ed z' (σ (83 + s)) (dσ σ s) (σ 2) ∧ FrQ z z'
set_option maxHeartbeats 8000000 in
theorem w_mpress {s : Nat} {σ : Int → Int} (hσ : z 190 = σ) (hV : V σ) (hs : s < 3) : WP (f_X12_findsPresses 189 (I3 s) (M p z l)) (fun μ => ∃ z', μ = M p z' l ∧ Pm z' (psσ σ s (lnσ σ s)) ∧ FrQ z z') := by
  have hv := hV.2.2.2.2.2.2.2 s hs
  have hlen := FS_len (d := dσ σ s) (gap := σ 0) hv.1.1 hv.1.2
  have hln : lnσ σ s ≤ 100 := hlen
  have hd60 : ∀ k, 0 ≤ k → k < σ (83 + s) → 1 ≤ dσ σ s k ∧ dσ σ s k ≤ 60000 := fun k k0 k1 => hv.2 k k0 k1
  have hσ1 := hV.2.1
  unfold f_X12_findsPresses
  simp (disch := first | assumption | omega) only [↓b_hid, bH_some, ↓hid_W, W_some, I3_a, I3_s, I3_m, I3_n, I3_l, I3_lt, I3_le, I3_e, I3_dv, I3_rm, I3_mx, I3_mn, I3_ab, cI, bI_0, bI_1, rZ_b, up_same, up_row, up_col, xr_some, LQ_r, LQ_l, Int.sub_self, Int.add_zero, Int.zero_add, Int.sub_zero, Int.neg_neg, not_true_eq_false, not_false_eq_true, Int.add_sub_cancel, ↓ite_iH, iH_t, iH_f, bH_iH, ↓bH_bind, xr_iH, ↓xr_bind, W_iH, WI_t, WI_f, gI_189, pI_189, iO_189, gR_189_0, aI_190, sI_190, gR_189_1, aI_191, sI_191, gR_189_3, aI_192, gR_189_10, aI_193, sI_193, gR_189_11, aI_194, sI_194, gR_189_13, aI_195, sI_195, gR_189_15, aI_196, sI_196, gR_189_17, aI_197, sI_197, gR_189_18, aI_198, sI_198, gR_189_19, aI_199, sI_199, gR_189_20, aI_200, sI_200, gR_189_23, aI_201, gR_189_24, aI_202, sI_202, gR_189_25, aI_203, sI_203, gR_189_29, aI_204, sI_204, gR_189_32, aI_205, sI_205, gR_189_35, aI_206, sI_206, pZ_189, gL_189, pL_189]
  refine W_bH (W_imp (q_opens hσ hV hs) ?_)
  rintro _ ⟨z1, rfl, a1, a2, a3⟩
  simp (disch := first | assumption | omega) only [↓b_hid, bH_some, ↓hid_W, W_some, I3_a, I3_s, I3_m, I3_n, I3_l, I3_lt, I3_le, I3_e, I3_dv, I3_rm, I3_mx, I3_mn, I3_ab, cI, bI_0, bI_1, rZ_b, up_same, up_row, up_col, xr_some, LQ_r, LQ_l, Int.sub_self, Int.add_zero, Int.zero_add, Int.sub_zero, Int.neg_neg, not_true_eq_false, not_false_eq_true, Int.add_sub_cancel, ↓ite_iH, iH_t, iH_f, bH_iH, ↓bH_bind, xr_iH, ↓xr_bind, W_iH, WI_t, WI_f, gI_189, pI_189, iO_189, gR_189_0, aI_190, sI_190, gR_189_1, aI_191, sI_191, gR_189_3, aI_192, gR_189_10, aI_193, sI_193, gR_189_11, aI_194, sI_194, gR_189_13, aI_195, sI_195, gR_189_15, aI_196, sI_196, gR_189_17, aI_197, sI_197, gR_189_18, aI_198, sI_198, gR_189_19, aI_199, sI_199, gR_189_20, aI_200, sI_200, gR_189_23, aI_201, gR_189_24, aI_202, sI_202, gR_189_25, aI_203, sI_203, gR_189_29, aI_204, sI_204, gR_189_32, aI_205, sI_205, gR_189_35, aI_206, sI_206, pZ_189, gL_189, pL_189]
  generalize hz2 : up (up z1 189 30 0) 189 31 0 = z2
  have hF2 : FrQ z z2 := by rw [← hz2]; exact FrQ_t a3 (FrQ_t (FrQ_up (Or.inl ⟨rfl, by decide⟩) _) (FrQ_up (Or.inl ⟨rfl, by decide⟩) _))
  have hL2 : FLm z2 (FS (dσ σ s) (σ (83 + s)) (σ 0)) := by
    obtain ⟨x, y⟩ := a1
    refine ⟨?_, ?_⟩
    · rw [← hz2, up_col (by decide), up_col (by decide)]; exact x
    · rw [← hz2, up_row (by decide), up_row (by decide), up_row (by decide), up_row (by decide)]; exact y
  have hE2 : Ed z2 (σ (83 + s)) (dσ σ s) (σ 2) := by
    obtain ⟨⟨x, y⟩, c1, c2, c3⟩ := a2
    refine ⟨⟨?_, ?_⟩, c1, ?_, c3⟩
    · rw [← hz2, up_col (by decide), up_col (by decide)]; exact x
    · rw [← hz2, up_row (by decide), up_row (by decide)]; exact y
    · rw [← hz2, up_col (by decide), up_col (by decide)]; exact c2
  unfold f_X12_findsPresses_28
  refine lp_W (PmI σ s p z l) (fun m st hst => ?_) ⟨0, z2, rfl, by omega, rfl, ⟨?_, ?_, ?_⟩, hL2, hE2, hF2⟩
  · obtain ⟨i, z', rfl, hi, rfl, hP, hL, hE, hF⟩ := hst
    have hI := PI_f (s := s) hV i
    have hσ' : z' 190 = σ := hF.2.1.trans hσ
    have g21 : z' 189 21 = lnσ σ s := hL.1
    unfold f_X12_findsPresses_28_b
    by_cases hil : i < lnσ σ s
    · have hnb := nb_r (σ := σ) hv.1.1 hv.1.2 hil hd60
      have hnext : psσ σ s (i + 1) = pst (dcd σ (dσ σ s) (σ (83 + s)) (σ 2) i) (nbf σ (dσ σ s) (σ (83 + s)) i) (σ 1) (repσ σ) (psσ σ s i) := rfl
      have hDr := dcd_r (d := dσ σ s) (n := σ (83 + s)) (tol := σ 2) i hV
      have hps0 : i = 0 → (psσ σ s i).1.1 = 0 := by intro h; subst h; rfl
      obtain ⟨g1, g2, g3, g4, g5⟩ := FS_g hv.1.1 hil
      simp (disch := first | assumption | omega) only [↓b_hid, bH_some, ↓hid_W, W_some, I3_a, I3_s, I3_m, I3_n, I3_l, I3_lt, I3_le, I3_e, I3_dv, I3_rm, I3_mx, I3_mn, I3_ab, cI, bI_0, bI_1, rZ_b, up_same, up_row, up_col, xr_some, LQ_r, LQ_l, Int.sub_self, Int.add_zero, Int.zero_add, Int.sub_zero, Int.neg_neg, not_true_eq_false, not_false_eq_true, Int.add_sub_cancel, ↓ite_iH, iH_t, iH_f, bH_iH, ↓bH_bind, xr_iH, ↓xr_bind, W_iH, WI_t, WI_f, gI_189, pI_189, iO_189, gR_189_0, aI_190, sI_190, gR_189_1, aI_191, sI_191, gR_189_3, aI_192, gR_189_10, aI_193, sI_193, gR_189_11, aI_194, sI_194, gR_189_13, aI_195, sI_195, gR_189_15, aI_196, sI_196, gR_189_17, aI_197, sI_197, gR_189_18, aI_198, sI_198, gR_189_19, aI_199, sI_199, gR_189_20, aI_200, sI_200, gR_189_23, aI_201, gR_189_24, aI_202, sI_202, gR_189_25, aI_203, sI_203, gR_189_29, aI_204, sI_204, gR_189_32, aI_205, sI_205, gR_189_35, aI_206, sI_206, pZ_189, gL_189, pL_189, g21, iH_pos, iH_neg, WI_pos, WI_neg]
      refine W_bH (W_imp (m_dcd hσ' hV hL hv.1.1 hv.1.2 hil hE) ?_)
      rintro _ ⟨v, z3, rfl, c1, c2⟩
      have hF3 := FrQ_t hF (FrQ_D c1)
      have hσ3 : z3 190 = σ := hF3.2.1.trans hσ
      have hL3 : FLm z3 (FS (dσ σ s) (σ (83 + s)) (σ 0)) := by
        obtain ⟨x, y⟩ := hL
        refine ⟨by rw [c1.2 21 (by decide) (by decide) (by decide)]; exact x, ?_⟩
        rw [c1.1 199 (by decide) (by decide) (by decide) (by decide), c1.1 200 (by decide) (by decide) (by decide) (by decide)]; exact y
      have hE3 := Ed_D c1 hE
      have hP3 : Pm z3 (psσ σ s i) := by
        obtain ⟨x, y, w⟩ := hP
        refine ⟨by rw [c1.2 30 (by decide) (by decide) (by decide)]; exact x, by rw [c1.2 31 (by decide) (by decide) (by decide)]; exact y, ?_⟩
        rw [c1.1 204 (by decide) (by decide) (by decide) (by decide)]; exact w
      have hfi : z3 199 i = (gl (FS (dσ σ s) (σ (83 + s)) (σ 0)) i).1 := (hL3.2 i hil).1
      have hnbd : i ≠ 0 → z3 195 ((gl (FS (dσ σ s) (σ (83 + s)) (σ 0)) i).1 - 1) = nbf σ (dσ σ s) (σ (83 + s)) i ∧ 1 ≤ (gl (FS (dσ σ s) (σ (83 + s)) (σ 0)) i).1 := by
        intro h0
        have h1 : 1 ≤ (gl (FS (dσ σ s) (σ (83 + s)) (σ 0)) i).1 := by
          obtain ⟨j, rfl⟩ : ∃ j, i = j + 1 := ⟨i - 1, by omega⟩
          exact FS_next hil
        refine ⟨?_, h1⟩
        rw [hE3.1.2 _ (by omega) (by omega)]
        unfold nbf; rw [if_neg h0]
      generalize hD : dcd σ (dσ σ s) (σ (83 + s)) (σ 2) i = D at *
      generalize hnbe : nbf σ (dσ σ s) (σ (83 + s)) i = nb at *
      generalize hst : psσ σ s i = t at *
      obtain ⟨⟨h, lk, lp, lc, n, st⟩, P, C, K⟩ := t
      obtain ⟨i1, i2, i3, i4, i5, i6, i7, i8⟩ := hI
      obtain ⟨q1, q2, q4⟩ := hP3
      simp only at i1 i2 i3 i4 i5 i6 i7 i8 q1 q2 q4 hps0
      have hDr1 : -9 ≤ D.1 ∧ D.1 ≤ 6 := by
        rcases hDr with h | ⟨j, h1, h2, _⟩
        · rw [h]; decide
        · have := V_n hV; omega
      have hDr2 : -9 ≤ D.2 ∧ D.2 ≤ 1000000 := by
        rcases hDr with h | ⟨j, h1, h2, h3⟩
        · rw [h]; decide
        · omega
      have hDc : D.2 ≠ -9 → 0 ≤ D.1 ∧ D.1 < nσ σ ∧ 0 ≤ D.2 := by
        intro hc
        rcases hDr with h | ⟨j, h1, h2, h3⟩
        · rw [h] at hc; exact absurd rfl hc
        · omega
      have hD19 : D.1 = -9 → D.2 = -9 := by
        intro hc
        rcases hDr with h | ⟨j, h1, h2, h3⟩
        · rw [h]
        · omega
      have hv01 : v = 0 ∨ v = 1 := by rcases c2 with h | h <;> omega
      have done : ∀ (z4 : Nat → Int → Int), Pm z4 (psσ σ s (i + 1)) → (FrQ z3 z4 ∧ z4 195 = z3 195 ∧ z4 199 = z3 199 ∧ z4 200 = z3 200 ∧ ∀ j, j < 30 → z4 189 j = z3 189 j) → WP (f_X12_findsPresses_282 189 (I3 (psσ σ s (i + 1)).1.2.1) (I3 (psσ σ s (i + 1)).1.2.2.1) (I3 (psσ σ s (i + 1)).1.2.2.2.1) (I3 (psσ σ s (i + 1)).1.1) (I3 i) (M p z4 l)) (LQ (fun μ => ∃ z', μ = M p z' l ∧ Pm z' (psσ σ s (lnσ σ s)) ∧ FrQ z z') (PmI σ s p z l) (lnσ σ s - i)) := by
        rintro z4 hP4 ⟨k1, k2, k3, k4, k5⟩
        unfold f_X12_findsPresses_282
        simp (disch := first | assumption | omega) only [↓b_hid, bH_some, ↓hid_W, W_some, I3_a, I3_s, I3_m, I3_n, I3_l, I3_lt, I3_le, I3_e, I3_dv, I3_rm, I3_mx, I3_mn, I3_ab, cI, bI_0, bI_1, rZ_b, up_same, up_row, up_col, xr_some, LQ_r, LQ_l, Int.sub_self, Int.add_zero, Int.zero_add, Int.sub_zero, Int.neg_neg, not_true_eq_false, not_false_eq_true, Int.add_sub_cancel, ↓ite_iH, iH_t, iH_f, bH_iH, ↓bH_bind, xr_iH, ↓xr_bind, W_iH, WI_t, WI_f]
        refine ⟨_, by omega, i + 1, z4, by rw [Int.natCast_add]; rfl, by omega, rfl, hP4, ?_, ?_, FrQ_t hF3 k1⟩
        · obtain ⟨x, y⟩ := hL3
          exact ⟨by rw [k5 21 (by decide)]; exact x, by rw [k3, k4]; exact y⟩
        · obtain ⟨⟨x, y⟩, w1, w2, w3⟩ := hE3
          exact ⟨⟨by rw [k5 14 (by decide)]; exact x, by rw [k2]; exact y⟩, w1, by rw [k5 22 (by decide)]; exact w2, w3⟩
      have new : ¬pgo D nb (σ 1) (repσ σ) ((h, lk, lp, lc, n, st), P, C, K) → WP (f_X12_findsPresses_171 189 (I3 lk) (I3 lp) (I3 lc) (I3 i) (I3 v) (M p z3 l)) (LQ (fun μ => ∃ z', μ = M p z' l ∧ Pm z' (psσ σ s (lnσ σ s)) ∧ FrQ z z') (PmI σ s p z l) (lnσ σ s - i)) := by
        intro hno
        unfold pst at hnext
        rw [if_neg hno] at hnext
        simp only at hnext
        have stray : D.2 = -9 → WP (f_X12_findsPresses_269 189 (I3 lk) (I3 lp) (I3 lc) (I3 i) (M p z3 l)) (LQ (fun μ => ∃ z', μ = M p z' l ∧ Pm z' (psσ σ s (lnσ σ s)) ∧ FrQ z z') (PmI σ s p z l) (lnσ σ s - i)) := by
          intro h9
          rw [if_neg (by omega)] at hnext
          unfold f_X12_findsPresses_269
          simp (disch := first | assumption | omega) only [↓b_hid, bH_some, ↓hid_W, W_some, I3_a, I3_s, I3_m, I3_n, I3_l, I3_lt, I3_le, I3_e, I3_dv, I3_rm, I3_mx, I3_mn, I3_ab, cI, bI_0, bI_1, rZ_b, up_same, up_row, up_col, xr_some, LQ_r, LQ_l, Int.sub_self, Int.add_zero, Int.zero_add, Int.sub_zero, Int.neg_neg, not_true_eq_false, not_false_eq_true, Int.add_sub_cancel, ↓ite_iH, iH_t, iH_f, bH_iH, ↓bH_bind, xr_iH, ↓xr_bind, W_iH, WI_t, WI_f, gI_189, pI_189, iO_189, gR_189_0, aI_190, sI_190, gR_189_1, aI_191, sI_191, gR_189_3, aI_192, gR_189_10, aI_193, sI_193, gR_189_11, aI_194, sI_194, gR_189_13, aI_195, sI_195, gR_189_15, aI_196, sI_196, gR_189_17, aI_197, sI_197, gR_189_18, aI_198, sI_198, gR_189_19, aI_199, sI_199, gR_189_20, aI_200, sI_200, gR_189_23, aI_201, gR_189_24, aI_202, sI_202, gR_189_25, aI_203, sI_203, gR_189_29, aI_204, sI_204, gR_189_32, aI_205, sI_205, gR_189_35, aI_206, sI_206, pZ_189, gL_189, pL_189, q2]
          have := done (up z3 189 31 (st + 1)) (by
            rw [hnext]
            refine ⟨by rw [up_col (by decide)]; exact q1, by rw [up_same], fun k k0 k1 => ?_⟩
            rw [up_row (by decide)]; exact q4 k k0 k1) ⟨FrQ_up (Or.inl ⟨rfl, by decide⟩) _, up_row (by decide) _ _ _, up_row (by decide) _ _ _, up_row (by decide) _ _ _, fun j hj => up_col (by omega) _ _ _ _⟩
          rw [hnext] at this
          exact this
        unfold f_X12_findsPresses_171
        rcases c2 with ⟨rfl, d1, d2⟩ | ⟨rfl, d1, d2, d3, d4⟩
        · simp (disch := first | assumption | omega) only [↓b_hid, bH_some, ↓hid_W, W_some, I3_a, I3_s, I3_m, I3_n, I3_l, I3_lt, I3_le, I3_e, I3_dv, I3_rm, I3_mx, I3_mn, I3_ab, cI, bI_0, bI_1, rZ_b, up_same, up_row, up_col, xr_some, LQ_r, LQ_l, Int.sub_self, Int.add_zero, Int.zero_add, Int.sub_zero, Int.neg_neg, not_true_eq_false, not_false_eq_true, Int.add_sub_cancel, ↓ite_iH, iH_t, iH_f, bH_iH, ↓bH_bind, xr_iH, ↓xr_bind, W_iH, WI_t, WI_f, iH_pos, iH_neg, WI_pos, WI_neg]; exact stray (hD19 d1)
        · by_cases h9 : D.2 = -9
          · rw [if_pos h9] at d4
            simp (disch := first | assumption | omega) only [↓b_hid, bH_some, ↓hid_W, W_some, I3_a, I3_s, I3_m, I3_n, I3_l, I3_lt, I3_le, I3_e, I3_dv, I3_rm, I3_mx, I3_mn, I3_ab, cI, bI_0, bI_1, rZ_b, up_same, up_row, up_col, xr_some, LQ_r, LQ_l, Int.sub_self, Int.add_zero, Int.zero_add, Int.sub_zero, Int.neg_neg, not_true_eq_false, not_false_eq_true, Int.add_sub_cancel, ↓ite_iH, iH_t, iH_f, bH_iH, ↓bH_bind, xr_iH, ↓xr_bind, W_iH, WI_t, WI_f, gI_189, pI_189, iO_189, gR_189_0, aI_190, sI_190, gR_189_1, aI_191, sI_191, gR_189_3, aI_192, gR_189_10, aI_193, sI_193, gR_189_11, aI_194, sI_194, gR_189_13, aI_195, sI_195, gR_189_15, aI_196, sI_196, gR_189_17, aI_197, sI_197, gR_189_18, aI_198, sI_198, gR_189_19, aI_199, sI_199, gR_189_20, aI_200, sI_200, gR_189_23, aI_201, gR_189_24, aI_202, sI_202, gR_189_25, aI_203, sI_203, gR_189_29, aI_204, sI_204, gR_189_32, aI_205, sI_205, gR_189_35, aI_206, sI_206, pZ_189, gL_189, pL_189, d4, iH_pos, iH_neg, WI_pos, WI_neg]; exact stray h9
          · rw [if_neg h9] at d4
            rw [if_pos h9] at hnext
            obtain ⟨e1, e2, e3⟩ := hDc h9
            by_cases hn30 : n < 30
            · rw [if_pos hn30] at hnext
              simp (disch := first | assumption | omega) only [↓b_hid, bH_some, ↓hid_W, W_some, I3_a, I3_s, I3_m, I3_n, I3_l, I3_lt, I3_le, I3_e, I3_dv, I3_rm, I3_mx, I3_mn, I3_ab, cI, bI_0, bI_1, rZ_b, up_same, up_row, up_col, xr_some, LQ_r, LQ_l, Int.sub_self, Int.add_zero, Int.zero_add, Int.sub_zero, Int.neg_neg, not_true_eq_false, not_false_eq_true, Int.add_sub_cancel, ↓ite_iH, iH_t, iH_f, bH_iH, ↓bH_bind, xr_iH, ↓xr_bind, W_iH, WI_t, WI_f, gI_189, pI_189, iO_189, gR_189_0, aI_190, sI_190, gR_189_1, aI_191, sI_191, gR_189_3, aI_192, gR_189_10, aI_193, sI_193, gR_189_11, aI_194, sI_194, gR_189_13, aI_195, sI_195, gR_189_15, aI_196, sI_196, gR_189_17, aI_197, sI_197, gR_189_18, aI_198, sI_198, gR_189_19, aI_199, sI_199, gR_189_20, aI_200, sI_200, gR_189_23, aI_201, gR_189_24, aI_202, sI_202, gR_189_25, aI_203, sI_203, gR_189_29, aI_204, sI_204, gR_189_32, aI_205, sI_205, gR_189_35, aI_206, sI_206, pZ_189, gL_189, pL_189, d4, d2, d3, q1, f_X12_findsPresses_211, f_X12_findsPresses_263, iH_pos, iH_neg, WI_pos, WI_neg]
              generalize hz4 : up (up (up (up z3 204 (3 * n) D.1) 204 (3 * n + 1) D.2) 204 (3 * n + 2) 1) 189 30 (n + 1) = z4
              have := done z4 (by
                rw [hnext, ← hz4]
                refine ⟨by rw [up_same], ?_, fun k k0 k1 => ?_⟩
                · simp (disch := omega) only [up_row, up_col, up_same]; exact q2
                · simp only at k1 ⊢
                  unfold st1
                  by_cases hk : k = n
                  · subst hk
                    refine ⟨?_, ?_, ?_⟩ <;> simp (disch := omega) only [up_row, up_col, up_same, if_true]
                  · obtain ⟨r1, r2, r3⟩ := q4 k k0 (by omega)
                    rw [if_neg hk, if_neg hk, if_neg hk]
                    refine ⟨?_, ?_, ?_⟩ <;> simp (disch := omega) only [up_row, up_col, up_same] <;> assumption) (by
                rw [← hz4]
                refine ⟨FrQ_t (FrQ_t (FrQ_t (FrQ_up (Or.inr (by decide)) _) (FrQ_up (Or.inr (by decide)) _)) (FrQ_up (Or.inr (by decide)) _)) (FrQ_up (Or.inl ⟨rfl, by decide⟩) _), ?_, ?_, ?_, fun j hj => ?_⟩ <;> simp (disch := omega) only [up_row, up_col])
              rw [hnext] at this
              exact this
            · rw [if_neg hn30] at hnext
              simp (disch := first | assumption | omega) only [↓b_hid, bH_some, ↓hid_W, W_some, I3_a, I3_s, I3_m, I3_n, I3_l, I3_lt, I3_le, I3_e, I3_dv, I3_rm, I3_mx, I3_mn, I3_ab, cI, bI_0, bI_1, rZ_b, up_same, up_row, up_col, xr_some, LQ_r, LQ_l, Int.sub_self, Int.add_zero, Int.zero_add, Int.sub_zero, Int.neg_neg, not_true_eq_false, not_false_eq_true, Int.add_sub_cancel, ↓ite_iH, iH_t, iH_f, bH_iH, ↓bH_bind, xr_iH, ↓xr_bind, W_iH, WI_t, WI_f, gI_189, pI_189, iO_189, gR_189_0, aI_190, sI_190, gR_189_1, aI_191, sI_191, gR_189_3, aI_192, gR_189_10, aI_193, sI_193, gR_189_11, aI_194, sI_194, gR_189_13, aI_195, sI_195, gR_189_15, aI_196, sI_196, gR_189_17, aI_197, sI_197, gR_189_18, aI_198, sI_198, gR_189_19, aI_199, sI_199, gR_189_20, aI_200, sI_200, gR_189_23, aI_201, gR_189_24, aI_202, sI_202, gR_189_25, aI_203, sI_203, gR_189_29, aI_204, sI_204, gR_189_32, aI_205, sI_205, gR_189_35, aI_206, sI_206, pZ_189, gL_189, pL_189, d4, d2, d3, q1, f_X12_findsPresses_211, f_X12_findsPresses_263, iH_pos, iH_neg, WI_pos, WI_neg]
              have := done z3 (by rw [hnext]; exact ⟨q1, q2, q4⟩) ⟨FrQ_r _, rfl, rfl, rfl, fun _ _ => rfl⟩
              rw [hnext] at this
              exact this
      have h133 : ∀ c g : Int, (c = 0 ∨ c = 1) → (g = 0 ∨ g = 1) → (h = 1 → (c = 1 ↔ nb ≤ σ 1)) → (g = 1 ↔ (D.1 ≠ -9 ∧ D.1 = lp ∧ (D.2 = -9 ∨ D.2 = lc ∧ repσ σ D.1 ≠ 1))) → WP (f_X12_findsPresses_133 189 (I3 lk) (I3 lp) (I3 lc) (I3 h) (I3 i) (I3 v) (I3 c) (I3 g) (M p z3 l)) (LQ (fun μ => ∃ z', μ = M p z' l ∧ Pm z' (psσ σ s (lnσ σ s)) ∧ FrQ z z') (PmI σ s p z l) (lnσ σ s - i)) := by
        intro c g hc hg hcn hgl
        unfold f_X12_findsPresses_133
        by_cases hgo : pgo D nb (σ 1) (repσ σ) ((h, lk, lp, lc, n, st), P, C, K)
        · have hgo' := hgo
          obtain ⟨b1, b2, b3⟩ := hgo'
          simp only at b1 b3
          have hc1 : c = 1 := (hcn b1).mpr b2
          have hg1 : g = 1 := hgl.mpr b3
          unfold pst at hnext
          rw [if_pos hgo] at hnext
          simp only at hnext
          by_cases hlk : 0 ≤ lk
          · rw [if_pos hlk] at hnext
            have hlk2 := i3 b1 hlk
            simp (disch := first | assumption | omega) only [↓b_hid, bH_some, ↓hid_W, W_some, I3_a, I3_s, I3_m, I3_n, I3_l, I3_lt, I3_le, I3_e, I3_dv, I3_rm, I3_mx, I3_mn, I3_ab, cI, bI_0, bI_1, rZ_b, up_same, up_row, up_col, xr_some, LQ_r, LQ_l, Int.sub_self, Int.add_zero, Int.zero_add, Int.sub_zero, Int.neg_neg, not_true_eq_false, not_false_eq_true, Int.add_sub_cancel, ↓ite_iH, iH_t, iH_f, bH_iH, ↓bH_bind, xr_iH, ↓xr_bind, W_iH, WI_t, WI_f, gI_189, pI_189, iO_189, gR_189_0, aI_190, sI_190, gR_189_1, aI_191, sI_191, gR_189_3, aI_192, gR_189_10, aI_193, sI_193, gR_189_11, aI_194, sI_194, gR_189_13, aI_195, sI_195, gR_189_15, aI_196, sI_196, gR_189_17, aI_197, sI_197, gR_189_18, aI_198, sI_198, gR_189_19, aI_199, sI_199, gR_189_20, aI_200, sI_200, gR_189_23, aI_201, gR_189_24, aI_202, sI_202, gR_189_25, aI_203, sI_203, gR_189_29, aI_204, sI_204, gR_189_32, aI_205, sI_205, gR_189_35, aI_206, sI_206, pZ_189, gL_189, pL_189, iH_pos, iH_neg, WI_pos, WI_neg]
            have := done (up z3 204 (3 * lk + 2) (z3 204 (3 * lk + 2) + 1)) (by
              rw [hnext]
              refine ⟨by rw [up_row (by decide)]; exact q1, by rw [up_row (by decide)]; exact q2, fun k k0 k1 => ?_⟩
              simp only at k1 ⊢
              obtain ⟨r1, r2, r3⟩ := q4 k k0 k1
              unfold st1
              rw [up_col (by omega), up_col (by omega)]
              refine ⟨r1, r2, ?_⟩
              by_cases hk : k = lk
              · subst hk; rw [if_pos rfl, up_same, r3]
              · rw [if_neg hk, up_col (by omega)]; exact r3) ⟨FrQ_up (Or.inr (by decide)) _, up_row (by decide) _ _ _, up_row (by decide) _ _ _, up_row (by decide) _ _ _, fun j hj => by rw [up_row (by decide)]⟩
            rw [hnext] at this
            exact this
          · rw [if_neg hlk] at hnext
            simp (disch := first | assumption | omega) only [↓b_hid, bH_some, ↓hid_W, W_some, I3_a, I3_s, I3_m, I3_n, I3_l, I3_lt, I3_le, I3_e, I3_dv, I3_rm, I3_mx, I3_mn, I3_ab, cI, bI_0, bI_1, rZ_b, up_same, up_row, up_col, xr_some, LQ_r, LQ_l, Int.sub_self, Int.add_zero, Int.zero_add, Int.sub_zero, Int.neg_neg, not_true_eq_false, not_false_eq_true, Int.add_sub_cancel, ↓ite_iH, iH_t, iH_f, bH_iH, ↓bH_bind, xr_iH, ↓xr_bind, W_iH, WI_t, WI_f, gI_189, pI_189, iO_189, gR_189_0, aI_190, sI_190, gR_189_1, aI_191, sI_191, gR_189_3, aI_192, gR_189_10, aI_193, sI_193, gR_189_11, aI_194, sI_194, gR_189_13, aI_195, sI_195, gR_189_15, aI_196, sI_196, gR_189_17, aI_197, sI_197, gR_189_18, aI_198, sI_198, gR_189_19, aI_199, sI_199, gR_189_20, aI_200, sI_200, gR_189_23, aI_201, gR_189_24, aI_202, sI_202, gR_189_25, aI_203, sI_203, gR_189_29, aI_204, sI_204, gR_189_32, aI_205, sI_205, gR_189_35, aI_206, sI_206, pZ_189, gL_189, pL_189, iH_pos, iH_neg, WI_pos, WI_neg]
            have := done z3 (by rw [hnext]; exact ⟨q1, q2, q4⟩) ⟨FrQ_r _, rfl, rfl, rfl, fun _ _ => rfl⟩
            rw [hnext] at this
            exact this
        · simp (disch := first | assumption | omega) only [↓b_hid, bH_some, ↓hid_W, W_some, I3_a, I3_s, I3_m, I3_n, I3_l, I3_lt, I3_le, I3_e, I3_dv, I3_rm, I3_mx, I3_mn, I3_ab, cI, bI_0, bI_1, rZ_b, up_same, up_row, up_col, xr_some, LQ_r, LQ_l, Int.sub_self, Int.add_zero, Int.zero_add, Int.sub_zero, Int.neg_neg, not_true_eq_false, not_false_eq_true, Int.add_sub_cancel, ↓ite_iH, iH_t, iH_f, bH_iH, ↓bH_bind, xr_iH, ↓xr_bind, W_iH, WI_t, WI_f]
          refine WI_i (fun h1 => ?_) (fun h1 => ?_)
          · simp (disch := first | assumption | omega) only [↓b_hid, bH_some, ↓hid_W, W_some, I3_a, I3_s, I3_m, I3_n, I3_l, I3_lt, I3_le, I3_e, I3_dv, I3_rm, I3_mx, I3_mn, I3_ab, cI, bI_0, bI_1, rZ_b, up_same, up_row, up_col, xr_some, LQ_r, LQ_l, Int.sub_self, Int.add_zero, Int.zero_add, Int.sub_zero, Int.neg_neg, not_true_eq_false, not_false_eq_true, Int.add_sub_cancel, ↓ite_iH, iH_t, iH_f, bH_iH, ↓bH_bind, xr_iH, ↓xr_bind, W_iH, WI_t, WI_f]; exact new hgo
          simp (disch := first | assumption | omega) only [↓b_hid, bH_some, ↓hid_W, W_some, I3_a, I3_s, I3_m, I3_n, I3_l, I3_lt, I3_le, I3_e, I3_dv, I3_rm, I3_mx, I3_mn, I3_ab, cI, bI_0, bI_1, rZ_b, up_same, up_row, up_col, xr_some, LQ_r, LQ_l, Int.sub_self, Int.add_zero, Int.zero_add, Int.sub_zero, Int.neg_neg, not_true_eq_false, not_false_eq_true, Int.add_sub_cancel, ↓ite_iH, iH_t, iH_f, bH_iH, ↓bH_bind, xr_iH, ↓xr_bind, W_iH, WI_t, WI_f]
          refine WI_i (fun h2 => ?_) (fun h2 => ?_)
          · simp (disch := first | assumption | omega) only [↓b_hid, bH_some, ↓hid_W, W_some, I3_a, I3_s, I3_m, I3_n, I3_l, I3_lt, I3_le, I3_e, I3_dv, I3_rm, I3_mx, I3_mn, I3_ab, cI, bI_0, bI_1, rZ_b, up_same, up_row, up_col, xr_some, LQ_r, LQ_l, Int.sub_self, Int.add_zero, Int.zero_add, Int.sub_zero, Int.neg_neg, not_true_eq_false, not_false_eq_true, Int.add_sub_cancel, ↓ite_iH, iH_t, iH_f, bH_iH, ↓bH_bind, xr_iH, ↓xr_bind, W_iH, WI_t, WI_f]; exact new hgo
          simp (disch := first | assumption | omega) only [↓b_hid, bH_some, ↓hid_W, W_some, I3_a, I3_s, I3_m, I3_n, I3_l, I3_lt, I3_le, I3_e, I3_dv, I3_rm, I3_mx, I3_mn, I3_ab, cI, bI_0, bI_1, rZ_b, up_same, up_row, up_col, xr_some, LQ_r, LQ_l, Int.sub_self, Int.add_zero, Int.zero_add, Int.sub_zero, Int.neg_neg, not_true_eq_false, not_false_eq_true, Int.add_sub_cancel, ↓ite_iH, iH_t, iH_f, bH_iH, ↓bH_bind, xr_iH, ↓xr_bind, W_iH, WI_t, WI_f]
          refine WI_i (fun h3 => ?_) (fun h3 => ?_)
          · simp (disch := first | assumption | omega) only [↓b_hid, bH_some, ↓hid_W, W_some, I3_a, I3_s, I3_m, I3_n, I3_l, I3_lt, I3_le, I3_e, I3_dv, I3_rm, I3_mx, I3_mn, I3_ab, cI, bI_0, bI_1, rZ_b, up_same, up_row, up_col, xr_some, LQ_r, LQ_l, Int.sub_self, Int.add_zero, Int.zero_add, Int.sub_zero, Int.neg_neg, not_true_eq_false, not_false_eq_true, Int.add_sub_cancel, ↓ite_iH, iH_t, iH_f, bH_iH, ↓bH_bind, xr_iH, ↓xr_bind, W_iH, WI_t, WI_f]; exact new hgo
          · exact absurd ⟨i1.resolve_left h1, (hcn (i1.resolve_left h1)).mp (hc.resolve_left h2), hgl.mp (hg.resolve_left h3)⟩ hgo
      have h78 : ∀ c : Int, (c = 0 ∨ c = 1) → (h = 1 → (c = 1 ↔ nb ≤ σ 1)) → WP (f_X12_findsPresses_78 189 (I3 lk) (I3 lp) (I3 lc) (I3 h) (I3 i) (I3 v) (I3 c) (M p z3 l)) (LQ (fun μ => ∃ z', μ = M p z' l ∧ Pm z' (psσ σ s (lnσ σ s)) ∧ FrQ z z') (PmI σ s p z l) (lnσ σ s - i)) := by
        intro c hc hcn
        have no : ¬(D.1 ≠ -9 ∧ D.1 = lp ∧ (D.2 = -9 ∨ D.2 = lc ∧ repσ σ D.1 ≠ 1)) → WP (f_X12_findsPresses_132 189 (I3 lk) (I3 lp) (I3 lc) (I3 h) (I3 i) (I3 v) (I3 c) (M p z3 l)) (LQ (fun μ => ∃ z', μ = M p z' l ∧ Pm z' (psσ σ s (lnσ σ s)) ∧ FrQ z z') (PmI σ s p z l) (lnσ σ s - i)) := by
          intro hn
          unfold f_X12_findsPresses_132
          simp (disch := first | assumption | omega) only [↓b_hid, bH_some, ↓hid_W, W_some, I3_a, I3_s, I3_m, I3_n, I3_l, I3_lt, I3_le, I3_e, I3_dv, I3_rm, I3_mx, I3_mn, I3_ab, cI, bI_0, bI_1, rZ_b, up_same, up_row, up_col, xr_some, LQ_r, LQ_l, Int.sub_self, Int.add_zero, Int.zero_add, Int.sub_zero, Int.neg_neg, not_true_eq_false, not_false_eq_true, Int.add_sub_cancel, ↓ite_iH, iH_t, iH_f, bH_iH, ↓bH_bind, xr_iH, ↓xr_bind, W_iH, WI_t, WI_f]
          exact h133 c 0 hc (Or.inl rfl) hcn ⟨fun h => absurd h (by decide), fun h => absurd h hn⟩
        have yes : (D.1 ≠ -9 ∧ D.1 = lp ∧ (D.2 = -9 ∨ D.2 = lc ∧ repσ σ D.1 ≠ 1)) → WP (f_X12_findsPresses_128 189 (I3 lk) (I3 lp) (I3 lc) (I3 h) (I3 i) (I3 v) (I3 c) (M p z3 l)) (LQ (fun μ => ∃ z', μ = M p z' l ∧ Pm z' (psσ σ s (lnσ σ s)) ∧ FrQ z z') (PmI σ s p z l) (lnσ σ s - i)) := by
          intro hn
          unfold f_X12_findsPresses_128
          simp (disch := first | assumption | omega) only [↓b_hid, bH_some, ↓hid_W, W_some, I3_a, I3_s, I3_m, I3_n, I3_l, I3_lt, I3_le, I3_e, I3_dv, I3_rm, I3_mx, I3_mn, I3_ab, cI, bI_0, bI_1, rZ_b, up_same, up_row, up_col, xr_some, LQ_r, LQ_l, Int.sub_self, Int.add_zero, Int.zero_add, Int.sub_zero, Int.neg_neg, not_true_eq_false, not_false_eq_true, Int.add_sub_cancel, ↓ite_iH, iH_t, iH_f, bH_iH, ↓bH_bind, xr_iH, ↓xr_bind, W_iH, WI_t, WI_f]
          exact h133 c 1 hc (Or.inr rfl) hcn ⟨fun _ => hn, fun _ => rfl⟩
        unfold f_X12_findsPresses_78
        rcases c2 with ⟨rfl, d1, d2⟩ | ⟨rfl, d1, d2, d3, d4⟩
        · simp (disch := first | assumption | omega) only [↓b_hid, bH_some, ↓hid_W, W_some, I3_a, I3_s, I3_m, I3_n, I3_l, I3_lt, I3_le, I3_e, I3_dv, I3_rm, I3_mx, I3_mn, I3_ab, cI, bI_0, bI_1, rZ_b, up_same, up_row, up_col, xr_some, LQ_r, LQ_l, Int.sub_self, Int.add_zero, Int.zero_add, Int.sub_zero, Int.neg_neg, not_true_eq_false, not_false_eq_true, Int.add_sub_cancel, ↓ite_iH, iH_t, iH_f, bH_iH, ↓bH_bind, xr_iH, ↓xr_bind, W_iH, WI_t, WI_f, iH_pos, iH_neg, WI_pos, WI_neg]; exact no (fun h => h.1 d1)
        · simp (disch := first | assumption | omega) only [↓b_hid, bH_some, ↓hid_W, W_some, I3_a, I3_s, I3_m, I3_n, I3_l, I3_lt, I3_le, I3_e, I3_dv, I3_rm, I3_mx, I3_mn, I3_ab, cI, bI_0, bI_1, rZ_b, up_same, up_row, up_col, xr_some, LQ_r, LQ_l, Int.sub_self, Int.add_zero, Int.zero_add, Int.sub_zero, Int.neg_neg, not_true_eq_false, not_false_eq_true, Int.add_sub_cancel, ↓ite_iH, iH_t, iH_f, bH_iH, ↓bH_bind, xr_iH, ↓xr_bind, W_iH, WI_t, WI_f, gI_189, pI_189, iO_189, gR_189_0, aI_190, sI_190, gR_189_1, aI_191, sI_191, gR_189_3, aI_192, gR_189_10, aI_193, sI_193, gR_189_11, aI_194, sI_194, gR_189_13, aI_195, sI_195, gR_189_15, aI_196, sI_196, gR_189_17, aI_197, sI_197, gR_189_18, aI_198, sI_198, gR_189_19, aI_199, sI_199, gR_189_20, aI_200, sI_200, gR_189_23, aI_201, gR_189_24, aI_202, sI_202, gR_189_25, aI_203, sI_203, gR_189_29, aI_204, sI_204, gR_189_32, aI_205, sI_205, gR_189_35, aI_206, sI_206, pZ_189, gL_189, pL_189, d2, iH_pos, iH_neg, WI_pos, WI_neg]
          refine WI_i (fun h1 => ?_) (fun h1 => ?_)
          · by_cases h9 : D.2 = -9
            · rw [if_pos h9] at d4
              simp (disch := first | assumption | omega) only [↓b_hid, bH_some, ↓hid_W, W_some, I3_a, I3_s, I3_m, I3_n, I3_l, I3_lt, I3_le, I3_e, I3_dv, I3_rm, I3_mx, I3_mn, I3_ab, cI, bI_0, bI_1, rZ_b, up_same, up_row, up_col, xr_some, LQ_r, LQ_l, Int.sub_self, Int.add_zero, Int.zero_add, Int.sub_zero, Int.neg_neg, not_true_eq_false, not_false_eq_true, Int.add_sub_cancel, ↓ite_iH, iH_t, iH_f, bH_iH, ↓bH_bind, xr_iH, ↓xr_bind, W_iH, WI_t, WI_f, gI_189, pI_189, iO_189, gR_189_0, aI_190, sI_190, gR_189_1, aI_191, sI_191, gR_189_3, aI_192, gR_189_10, aI_193, sI_193, gR_189_11, aI_194, sI_194, gR_189_13, aI_195, sI_195, gR_189_15, aI_196, sI_196, gR_189_17, aI_197, sI_197, gR_189_18, aI_198, sI_198, gR_189_19, aI_199, sI_199, gR_189_20, aI_200, sI_200, gR_189_23, aI_201, gR_189_24, aI_202, sI_202, gR_189_25, aI_203, sI_203, gR_189_29, aI_204, sI_204, gR_189_32, aI_205, sI_205, gR_189_35, aI_206, sI_206, pZ_189, gL_189, pL_189, d4, iH_pos, iH_neg, WI_pos, WI_neg]; exact yes ⟨d1, h1, Or.inl h9⟩
            · rw [if_neg h9] at d4
              obtain ⟨e1, e2, e3⟩ := hDc h9
              simp (disch := first | assumption | omega) only [↓b_hid, bH_some, ↓hid_W, W_some, I3_a, I3_s, I3_m, I3_n, I3_l, I3_lt, I3_le, I3_e, I3_dv, I3_rm, I3_mx, I3_mn, I3_ab, cI, bI_0, bI_1, rZ_b, up_same, up_row, up_col, xr_some, LQ_r, LQ_l, Int.sub_self, Int.add_zero, Int.zero_add, Int.sub_zero, Int.neg_neg, not_true_eq_false, not_false_eq_true, Int.add_sub_cancel, ↓ite_iH, iH_t, iH_f, bH_iH, ↓bH_bind, xr_iH, ↓xr_bind, W_iH, WI_t, WI_f, gI_189, pI_189, iO_189, gR_189_0, aI_190, sI_190, gR_189_1, aI_191, sI_191, gR_189_3, aI_192, gR_189_10, aI_193, sI_193, gR_189_11, aI_194, sI_194, gR_189_13, aI_195, sI_195, gR_189_15, aI_196, sI_196, gR_189_17, aI_197, sI_197, gR_189_18, aI_198, sI_198, gR_189_19, aI_199, sI_199, gR_189_20, aI_200, sI_200, gR_189_23, aI_201, gR_189_24, aI_202, sI_202, gR_189_25, aI_203, sI_203, gR_189_29, aI_204, sI_204, gR_189_32, aI_205, sI_205, gR_189_35, aI_206, sI_206, pZ_189, gL_189, pL_189, d4, d3, iH_pos, iH_neg, WI_pos, WI_neg]
              refine WI_i (fun h2 => ?_) (fun h2 => ?_)
              · have hlp5 := V_n hV
                have hPV := hV.2.2.2.2.2.1 D.1.toNat (by omega)
                have hrr : 0 ≤ repσ σ D.1 ∧ repσ σ D.1 ≤ 2 := by
                  have h8 := hPV.2.2.2.2.2.2.2
                  unfold repσ
                  rw [show ((D.1.toNat : Nat) : Int) = D.1 by omega] at h8; exact h8
                have hrow : z3 190 (4 + 9 * D.1 + 8) = repσ σ D.1 := by rw [hσ3]; rfl
                simp (disch := first | assumption | omega) only [↓b_hid, bH_some, ↓hid_W, W_some, I3_a, I3_s, I3_m, I3_n, I3_l, I3_lt, I3_le, I3_e, I3_dv, I3_rm, I3_mx, I3_mn, I3_ab, cI, bI_0, bI_1, rZ_b, up_same, up_row, up_col, xr_some, LQ_r, LQ_l, Int.sub_self, Int.add_zero, Int.zero_add, Int.sub_zero, Int.neg_neg, not_true_eq_false, not_false_eq_true, Int.add_sub_cancel, ↓ite_iH, iH_t, iH_f, bH_iH, ↓bH_bind, xr_iH, ↓xr_bind, W_iH, WI_t, WI_f, gI_189, pI_189, iO_189, gR_189_0, aI_190, sI_190, gR_189_1, aI_191, sI_191, gR_189_3, aI_192, gR_189_10, aI_193, sI_193, gR_189_11, aI_194, sI_194, gR_189_13, aI_195, sI_195, gR_189_15, aI_196, sI_196, gR_189_17, aI_197, sI_197, gR_189_18, aI_198, sI_198, gR_189_19, aI_199, sI_199, gR_189_20, aI_200, sI_200, gR_189_23, aI_201, gR_189_24, aI_202, sI_202, gR_189_25, aI_203, sI_203, gR_189_29, aI_204, sI_204, gR_189_32, aI_205, sI_205, gR_189_35, aI_206, sI_206, pZ_189, gL_189, pL_189, d2, m_at, hrow]
                refine WI_i (fun h3 => ?_) (fun h3 => ?_)
                · simp (disch := first | assumption | omega) only [↓b_hid, bH_some, ↓hid_W, W_some, I3_a, I3_s, I3_m, I3_n, I3_l, I3_lt, I3_le, I3_e, I3_dv, I3_rm, I3_mx, I3_mn, I3_ab, cI, bI_0, bI_1, rZ_b, up_same, up_row, up_col, xr_some, LQ_r, LQ_l, Int.sub_self, Int.add_zero, Int.zero_add, Int.sub_zero, Int.neg_neg, not_true_eq_false, not_false_eq_true, Int.add_sub_cancel, ↓ite_iH, iH_t, iH_f, bH_iH, ↓bH_bind, xr_iH, ↓xr_bind, W_iH, WI_t, WI_f]; exact no (fun h => by
                    rcases h.2.2 with h | h
                    · exact h9 h
                    · exact h.2 h3)
                · simp (disch := first | assumption | omega) only [↓b_hid, bH_some, ↓hid_W, W_some, I3_a, I3_s, I3_m, I3_n, I3_l, I3_lt, I3_le, I3_e, I3_dv, I3_rm, I3_mx, I3_mn, I3_ab, cI, bI_0, bI_1, rZ_b, up_same, up_row, up_col, xr_some, LQ_r, LQ_l, Int.sub_self, Int.add_zero, Int.zero_add, Int.sub_zero, Int.neg_neg, not_true_eq_false, not_false_eq_true, Int.add_sub_cancel, ↓ite_iH, iH_t, iH_f, bH_iH, ↓bH_bind, xr_iH, ↓xr_bind, W_iH, WI_t, WI_f]; exact yes ⟨d1, h1, Or.inr ⟨h2, h3⟩⟩
              · simp (disch := first | assumption | omega) only [↓b_hid, bH_some, ↓hid_W, W_some, I3_a, I3_s, I3_m, I3_n, I3_l, I3_lt, I3_le, I3_e, I3_dv, I3_rm, I3_mx, I3_mn, I3_ab, cI, bI_0, bI_1, rZ_b, up_same, up_row, up_col, xr_some, LQ_r, LQ_l, Int.sub_self, Int.add_zero, Int.zero_add, Int.sub_zero, Int.neg_neg, not_true_eq_false, not_false_eq_true, Int.add_sub_cancel, ↓ite_iH, iH_t, iH_f, bH_iH, ↓bH_bind, xr_iH, ↓xr_bind, W_iH, WI_t, WI_f]; exact no (fun h => by
                  rcases h.2.2 with h | h
                  · exact h9 h
                  · exact h2 h.1)
          · simp (disch := first | assumption | omega) only [↓b_hid, bH_some, ↓hid_W, W_some, I3_a, I3_s, I3_m, I3_n, I3_l, I3_lt, I3_le, I3_e, I3_dv, I3_rm, I3_mx, I3_mn, I3_ab, cI, bI_0, bI_1, rZ_b, up_same, up_row, up_col, xr_some, LQ_r, LQ_l, Int.sub_self, Int.add_zero, Int.zero_add, Int.sub_zero, Int.neg_neg, not_true_eq_false, not_false_eq_true, Int.add_sub_cancel, ↓ite_iH, iH_t, iH_f, bH_iH, ↓bH_bind, xr_iH, ↓xr_bind, W_iH, WI_t, WI_f]; exact no (fun h => h1 h.2.1)
      by_cases hi0 : i = 0
      · have hh := hps0 hi0
        have := h78 0 (Or.inl rfl) (fun h1 => by omega)
        simp (disch := first | assumption | omega) only [↓b_hid, bH_some, ↓hid_W, W_some, I3_a, I3_s, I3_m, I3_n, I3_l, I3_lt, I3_le, I3_e, I3_dv, I3_rm, I3_mx, I3_mn, I3_ab, cI, bI_0, bI_1, rZ_b, up_same, up_row, up_col, xr_some, LQ_r, LQ_l, Int.sub_self, Int.add_zero, Int.zero_add, Int.sub_zero, Int.neg_neg, not_true_eq_false, not_false_eq_true, Int.add_sub_cancel, ↓ite_iH, iH_t, iH_f, bH_iH, ↓bH_bind, xr_iH, ↓xr_bind, W_iH, WI_t, WI_f, gI_189, pI_189, iO_189, gR_189_0, aI_190, sI_190, gR_189_1, aI_191, sI_191, gR_189_3, aI_192, gR_189_10, aI_193, sI_193, gR_189_11, aI_194, sI_194, gR_189_13, aI_195, sI_195, gR_189_15, aI_196, sI_196, gR_189_17, aI_197, sI_197, gR_189_18, aI_198, sI_198, gR_189_19, aI_199, sI_199, gR_189_20, aI_200, sI_200, gR_189_23, aI_201, gR_189_24, aI_202, sI_202, gR_189_25, aI_203, sI_203, gR_189_29, aI_204, sI_204, gR_189_32, aI_205, sI_205, gR_189_35, aI_206, sI_206, pZ_189, gL_189, pL_189, f_X12_findsPresses_77, iH_pos, iH_neg, WI_pos, WI_neg]
        exact this
      · obtain ⟨n1, n2⟩ := hnbd hi0
        have h31 : z3 190 1 = σ 1 := by rw [hσ3]
        simp (disch := first | assumption | omega) only [↓b_hid, bH_some, ↓hid_W, W_some, I3_a, I3_s, I3_m, I3_n, I3_l, I3_lt, I3_le, I3_e, I3_dv, I3_rm, I3_mx, I3_mn, I3_ab, cI, bI_0, bI_1, rZ_b, up_same, up_row, up_col, xr_some, LQ_r, LQ_l, Int.sub_self, Int.add_zero, Int.zero_add, Int.sub_zero, Int.neg_neg, not_true_eq_false, not_false_eq_true, Int.add_sub_cancel, ↓ite_iH, iH_t, iH_f, bH_iH, ↓bH_bind, xr_iH, ↓xr_bind, W_iH, WI_t, WI_f, gI_189, pI_189, iO_189, gR_189_0, aI_190, sI_190, gR_189_1, aI_191, sI_191, gR_189_3, aI_192, gR_189_10, aI_193, sI_193, gR_189_11, aI_194, sI_194, gR_189_13, aI_195, sI_195, gR_189_15, aI_196, sI_196, gR_189_17, aI_197, sI_197, gR_189_18, aI_198, sI_198, gR_189_19, aI_199, sI_199, gR_189_20, aI_200, sI_200, gR_189_23, aI_201, gR_189_24, aI_202, sI_202, gR_189_25, aI_203, sI_203, gR_189_29, aI_204, sI_204, gR_189_32, aI_205, sI_205, gR_189_35, aI_206, sI_206, pZ_189, gL_189, pL_189, hfi, n1, h31, iH_pos, iH_neg, WI_pos, WI_neg]
        refine WI_i (fun h1 => ?_) (fun h1 => ?_)
        · have := h78 0 (Or.inl rfl) (fun _ => ⟨fun h => absurd h (by decide), fun h => by omega⟩)
          simp (disch := first | assumption | omega) only [↓b_hid, bH_some, ↓hid_W, W_some, I3_a, I3_s, I3_m, I3_n, I3_l, I3_lt, I3_le, I3_e, I3_dv, I3_rm, I3_mx, I3_mn, I3_ab, cI, bI_0, bI_1, rZ_b, up_same, up_row, up_col, xr_some, LQ_r, LQ_l, Int.sub_self, Int.add_zero, Int.zero_add, Int.sub_zero, Int.neg_neg, not_true_eq_false, not_false_eq_true, Int.add_sub_cancel, ↓ite_iH, iH_t, iH_f, bH_iH, ↓bH_bind, xr_iH, ↓xr_bind, W_iH, WI_t, WI_f, gI_189, pI_189, iO_189, gR_189_0, aI_190, sI_190, gR_189_1, aI_191, sI_191, gR_189_3, aI_192, gR_189_10, aI_193, sI_193, gR_189_11, aI_194, sI_194, gR_189_13, aI_195, sI_195, gR_189_15, aI_196, sI_196, gR_189_17, aI_197, sI_197, gR_189_18, aI_198, sI_198, gR_189_19, aI_199, sI_199, gR_189_20, aI_200, sI_200, gR_189_23, aI_201, gR_189_24, aI_202, sI_202, gR_189_25, aI_203, sI_203, gR_189_29, aI_204, sI_204, gR_189_32, aI_205, sI_205, gR_189_35, aI_206, sI_206, pZ_189, gL_189, pL_189, f_X12_findsPresses_77]
          exact this
        · have := h78 1 (Or.inr rfl) (fun _ => ⟨fun _ => by omega, fun _ => rfl⟩)
          simp (disch := first | assumption | omega) only [↓b_hid, bH_some, ↓hid_W, W_some, I3_a, I3_s, I3_m, I3_n, I3_l, I3_lt, I3_le, I3_e, I3_dv, I3_rm, I3_mx, I3_mn, I3_ab, cI, bI_0, bI_1, rZ_b, up_same, up_row, up_col, xr_some, LQ_r, LQ_l, Int.sub_self, Int.add_zero, Int.zero_add, Int.sub_zero, Int.neg_neg, not_true_eq_false, not_false_eq_true, Int.add_sub_cancel, ↓ite_iH, iH_t, iH_f, bH_iH, ↓bH_bind, xr_iH, ↓xr_bind, W_iH, WI_t, WI_f]
          exact this
    · have : i = lnσ σ s := by omega
      subst this
      simp (disch := first | assumption | omega) only [↓b_hid, bH_some, ↓hid_W, W_some, I3_a, I3_s, I3_m, I3_n, I3_l, I3_lt, I3_le, I3_e, I3_dv, I3_rm, I3_mx, I3_mn, I3_ab, cI, bI_0, bI_1, rZ_b, up_same, up_row, up_col, xr_some, LQ_r, LQ_l, Int.sub_self, Int.add_zero, Int.zero_add, Int.sub_zero, Int.neg_neg, not_true_eq_false, not_false_eq_true, Int.add_sub_cancel, ↓ite_iH, iH_t, iH_f, bH_iH, ↓bH_bind, xr_iH, ↓xr_bind, W_iH, WI_t, WI_f, gI_189, pI_189, iO_189, gR_189_0, aI_190, sI_190, gR_189_1, aI_191, sI_191, gR_189_3, aI_192, gR_189_10, aI_193, sI_193, gR_189_11, aI_194, sI_194, gR_189_13, aI_195, sI_195, gR_189_15, aI_196, sI_196, gR_189_17, aI_197, sI_197, gR_189_18, aI_198, sI_198, gR_189_19, aI_199, sI_199, gR_189_20, aI_200, sI_200, gR_189_23, aI_201, gR_189_24, aI_202, sI_202, gR_189_25, aI_203, sI_203, gR_189_29, aI_204, sI_204, gR_189_32, aI_205, sI_205, gR_189_35, aI_206, sI_206, pZ_189, gL_189, pL_189, g21, f_X12_findsPresses_288, iH_pos, iH_neg, WI_pos, WI_neg]
      exact ⟨z', rfl, hP, hF⟩
  · rw [← hz2, up_col (by decide), up_same]; rfl
  · rw [← hz2, up_same]; rfl
  · intro k k0 k1; simp [psσ, psf] at k1; omega
end
