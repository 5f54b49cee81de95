/-! The model: codes, short frames, decoding. -/
section
variable {p : Nat → Nat} {z l : Nat → Int → Int}
/-- a code, below 0: none -/
def xres (x v : Int) : Prop := (x = -9 ∧ v = -1) ∨ (0 ≤ x ∧ v = x)
theorem Eg_tol {n tol : Int} {d : Int → Int} (hE : Ed z n d tol) : 0 ≤ tol ∧ tol ≤ 40 := hE.2.2.2.1
theorem csum_nn (f b : Int → Int) (hb : ∀ k : Nat, b k = 0 ∨ b k = 1) (h6 : f 6 ≤ 16) (h : 0 ≤ f 6) : 0 ≤ csum f b (f 6).toNat ∧ csum f b (f 6).toNat ≤ 600000 := by
  have := csum_r f b hb h6 (f 6).toNat (by omega); omega
theorem m_readsPhase {q s m n tol : Int} {d e f : Int → Int} (hq : 0 ≤ q) (hq' : q < 6) (hf : Rw z q f) (hP : PV f) (hE : Ed z n d tol) (he : ∀ i, e i = d (s + i)) (hs : 0 ≤ s) (hsm : s + m ≤ n) (hm : 1 ≤ m) (hm2 : m % 2 = 1) : WP (f_X12_readsPhase 189 (I3 q) (I3 s) (I3 m) (M p z l)) (fun r => ∃ v z', r = (I3 v, M p z' l) ∧ FrS z z' ∧ (v = -1 ∧ phcode f e m tol = -9 ∨ ∃ b : Int → Int, (∀ j : Nat, b j = 0 ∨ b j = 1) ∧ v = bvs b (f 6).toNat ∧ phcode f e m tol = csum f b (f 6).toNat)) := by
  have hP' := hP
  obtain ⟨p0, p1, p2, p3, p4, p5, p6, p7⟩ := hP'
  have h6 := hf 6 (by omega) (by omega)
  have h1 := hf 1 (by omega) (by omega)
  have hn := hE.2.1
  unfold f_X12_readsPhase
  simp (disch := first | assumption | omega) only [↓b_hid, bH_some, ↓hid_W, ↓W_ite, WI_t, WI_f, W_some, I3_a, I3_s, I3_m, I3_n, I3_l, I3_lt, I3_le, I3_e, I3_dv, I3_rm, I3_mx, I3_mn, I3_ab, cI, bI_0, bI_1, rZ_b, up_same, up_row, up_col, xr_some, LQ_r, LQ_l, Int.sub_self, Int.add_zero, Int.zero_add, Int.sub_zero, Int.neg_neg, not_true_eq_false, not_false_eq_true, Int.add_sub_cancel, gI_189, pI_189, iO_189, gR_189_0, aI_190, sI_190, gR_189_1, aI_191, sI_191, gR_189_3, aI_192, gR_189_10, aI_193, sI_193, gR_189_11, aI_194, sI_194, gR_189_13, aI_195, sI_195, gR_189_15, aI_196, sI_196, gR_189_17, aI_197, sI_197, gR_189_18, aI_198, sI_198, gR_189_19, aI_199, sI_199, gR_189_20, aI_200, sI_200, gR_189_23, aI_201, gR_189_24, aI_202, sI_202, gR_189_25, aI_203, sI_203, gR_189_29, aI_204, sI_204, gR_189_32, aI_205, sI_205, gR_189_35, aI_206, sI_206, pZ_189, gL_189, pL_189, m_at, h6]
  unfold f_X12_readsPhase_17
  refine lp_W (fun n' st => ∃ (k : Int) (z' : Nat → Int → Int), st = (189, I3 q, I3 s, I3 m, I3 (f 6), I3 k, M p z' l) ∧ 0 ≤ k ∧ k ≤ 2720 ∧ n' = (2720 - k).toNat ∧ (∀ i, 0 ≤ i → i < k → z' 201 i = 0) ∧ ∀ c, c ≠ 201 → z' c = z c) (fun n' st hst => ?_) ⟨0, z, rfl, by omega, by omega, rfl, by intro i a b; omega, fun _ _ => rfl⟩
  obtain ⟨k, z', rfl, k0, k1, rfl, h0, hz⟩ := hst
  unfold f_X12_readsPhase_17_b
  by_cases hk : k < 2720
  · simp (disch := first | assumption | omega) only [↓b_hid, bH_some, ↓hid_W, ↓W_ite, WI_t, WI_f, W_some, I3_a, I3_s, I3_m, I3_n, I3_l, I3_lt, I3_le, I3_e, I3_dv, I3_rm, I3_mx, I3_mn, I3_ab, cI, bI_0, bI_1, rZ_b, up_same, up_row, up_col, xr_some, LQ_r, LQ_l, Int.sub_self, Int.add_zero, Int.zero_add, Int.sub_zero, Int.neg_neg, not_true_eq_false, not_false_eq_true, Int.add_sub_cancel, gI_189, pI_189, iO_189, gR_189_0, aI_190, sI_190, gR_189_1, aI_191, sI_191, gR_189_3, aI_192, gR_189_10, aI_193, sI_193, gR_189_11, aI_194, sI_194, gR_189_13, aI_195, sI_195, gR_189_15, aI_196, sI_196, gR_189_17, aI_197, sI_197, gR_189_18, aI_198, sI_198, gR_189_19, aI_199, sI_199, gR_189_20, aI_200, sI_200, gR_189_23, aI_201, gR_189_24, aI_202, sI_202, gR_189_25, aI_203, sI_203, gR_189_29, aI_204, sI_204, gR_189_32, aI_205, sI_205, gR_189_35, aI_206, sI_206, pZ_189, gL_189, pL_189, sI_201, WI_pos, WI_neg]
    refine ⟨_, ?_, k + 1, _, rfl, by omega, by omega, rfl, ?_, ?_⟩
    · omega
    · intro i i0 i1
      by_cases hi : i = k
      · subst hi; rw [up_same]
      · rw [up_col hi]; exact h0 i i0 (by omega)
    · intro c hc; rw [up_row hc]; exact hz c hc
  · have hk : k = 2720 := by omega
    subst hk
    have hFS : FrS z z' := fun c a _ _ => hz c a
    have hE' := Ed_S hFS hE
    have e190 : z' 190 = z 190 := hz 190 (by decide)
    have hf' : Rw z' q f := Rw_congr e190 hf
    simp (disch := first | assumption | omega) only [↓b_hid, bH_some, ↓hid_W, ↓W_ite, WI_t, WI_f, W_some, I3_a, I3_s, I3_m, I3_n, I3_l, I3_lt, I3_le, I3_e, I3_dv, I3_rm, I3_mx, I3_mn, I3_ab, cI, bI_0, bI_1, rZ_b, up_same, up_row, up_col, xr_some, LQ_r, LQ_l, Int.sub_self, Int.add_zero, Int.zero_add, Int.sub_zero, Int.neg_neg, not_true_eq_false, not_false_eq_true, Int.add_sub_cancel, WI_pos, WI_neg]
    refine W_xr ?_
    unfold f_X12_readsPhase_39
    simp only [LQ_r]
    have bad : ¬(3 ≤ m ∧ m ≤ 2 * f 6 + 1 ∧ mt (e 0) (f 1) tol) → phcode f e m tol = -9 := fun h => cif_f h
    simp (disch := first | assumption | omega) only [↓b_hid, bH_some, ↓hid_W, ↓W_ite, WI_t, WI_f, W_some, I3_a, I3_s, I3_m, I3_n, I3_l, I3_lt, I3_le, I3_e, I3_dv, I3_rm, I3_mx, I3_mn, I3_ab, cI, bI_0, bI_1, rZ_b, up_same, up_row, up_col, xr_some, LQ_r, LQ_l, Int.sub_self, Int.add_zero, Int.zero_add, Int.sub_zero, Int.neg_neg, not_true_eq_false, not_false_eq_true, Int.add_sub_cancel]
    refine WI_i (fun h => ?_) (fun hm3 => ?_)
    · simp (disch := first | assumption | omega) only [↓b_hid, bH_some, ↓hid_W, ↓W_ite, WI_t, WI_f, W_some, I3_a, I3_s, I3_m, I3_n, I3_l, I3_lt, I3_le, I3_e, I3_dv, I3_rm, I3_mx, I3_mn, I3_ab, cI, bI_0, bI_1, rZ_b, up_same, up_row, up_col, xr_some, LQ_r, LQ_l, Int.sub_self, Int.add_zero, Int.zero_add, Int.sub_zero, Int.neg_neg, not_true_eq_false, not_false_eq_true, Int.add_sub_cancel]; exact ⟨-1, z', rfl, hFS, Or.inl ⟨rfl, bad (by omega)⟩⟩
    simp (disch := first | assumption | omega) only [↓b_hid, bH_some, ↓hid_W, ↓W_ite, WI_t, WI_f, W_some, I3_a, I3_s, I3_m, I3_n, I3_l, I3_lt, I3_le, I3_e, I3_dv, I3_rm, I3_mx, I3_mn, I3_ab, cI, bI_0, bI_1, rZ_b, up_same, up_row, up_col, xr_some, LQ_r, LQ_l, Int.sub_self, Int.add_zero, Int.zero_add, Int.sub_zero, Int.neg_neg, not_true_eq_false, not_false_eq_true, Int.add_sub_cancel]
    refine WI_i (fun h => ?_) (fun hm4 => ?_)
    · simp (disch := first | assumption | omega) only [↓b_hid, bH_some, ↓hid_W, ↓W_ite, WI_t, WI_f, W_some, I3_a, I3_s, I3_m, I3_n, I3_l, I3_lt, I3_le, I3_e, I3_dv, I3_rm, I3_mx, I3_mn, I3_ab, cI, bI_0, bI_1, rZ_b, up_same, up_row, up_col, xr_some, LQ_r, LQ_l, Int.sub_self, Int.add_zero, Int.zero_add, Int.sub_zero, Int.neg_neg, not_true_eq_false, not_false_eq_true, Int.add_sub_cancel]; exact ⟨-1, z', rfl, hFS, Or.inl ⟨rfl, bad (by omega)⟩⟩
    have z1 := m_rz hE' (show 0 ≤ s by omega) (by omega)
    have x1 := m_mat (p := p) (l := l) hE' (show 0 ≤ s by omega) (by omega) (show 0 ≤ f 1 by omega) (by omega)
    have e0 := he 0
    rw [Int.add_zero] at e0
    simp (disch := first | assumption | omega) only [↓b_hid, bH_some, ↓hid_W, ↓W_ite, WI_t, WI_f, W_some, I3_a, I3_s, I3_m, I3_n, I3_l, I3_lt, I3_le, I3_e, I3_dv, I3_rm, I3_mx, I3_mn, I3_ab, cI, bI_0, bI_1, rZ_b, up_same, up_row, up_col, xr_some, LQ_r, LQ_l, Int.sub_self, Int.add_zero, Int.zero_add, Int.sub_zero, Int.neg_neg, not_true_eq_false, not_false_eq_true, Int.add_sub_cancel, gI_189, pI_189, iO_189, gR_189_0, aI_190, sI_190, gR_189_1, aI_191, sI_191, gR_189_3, aI_192, gR_189_10, aI_193, sI_193, gR_189_11, aI_194, sI_194, gR_189_13, aI_195, sI_195, gR_189_15, aI_196, sI_196, gR_189_17, aI_197, sI_197, gR_189_18, aI_198, sI_198, gR_189_19, aI_199, sI_199, gR_189_20, aI_200, sI_200, gR_189_23, aI_201, gR_189_24, aI_202, sI_202, gR_189_25, aI_203, sI_203, gR_189_29, aI_204, sI_204, gR_189_32, aI_205, sI_205, gR_189_35, aI_206, sI_206, pZ_189, gL_189, pL_189, z1, m_at, e190, h1, x1]
    refine WI_i (fun h => ?_) (fun hmm => ?_)
    · simp (disch := first | assumption | omega) only [↓b_hid, bH_some, ↓hid_W, ↓W_ite, WI_t, WI_f, W_some, I3_a, I3_s, I3_m, I3_n, I3_l, I3_lt, I3_le, I3_e, I3_dv, I3_rm, I3_mx, I3_mn, I3_ab, cI, bI_0, bI_1, rZ_b, up_same, up_row, up_col, xr_some, LQ_r, LQ_l, Int.sub_self, Int.add_zero, Int.zero_add, Int.sub_zero, Int.neg_neg, not_true_eq_false, not_false_eq_true, Int.add_sub_cancel]; exact ⟨-1, z', rfl, hFS, Or.inl ⟨rfl, bad (by rintro ⟨_, _, hx⟩; rw [e0] at hx; exact h hx)⟩⟩
    have hg : 3 ≤ m ∧ m ≤ 2 * f 6 + 1 ∧ mt (e 0) (f 1) tol := ⟨by omega, by omega, by rw [e0]; exact Classical.byContradiction hmm⟩
    simp (disch := first | assumption | omega) only [↓b_hid, bH_some, ↓hid_W, ↓W_ite, WI_t, WI_f, W_some, I3_a, I3_s, I3_m, I3_n, I3_l, I3_lt, I3_le, I3_e, I3_dv, I3_rm, I3_mx, I3_mn, I3_ab, cI, bI_0, bI_1, rZ_b, up_same, up_row, up_col, xr_some, LQ_r, LQ_l, Int.sub_self, Int.add_zero, Int.zero_add, Int.sub_zero, Int.neg_neg, not_true_eq_false, not_false_eq_true, Int.add_sub_cancel, gI_189, pI_189, iO_189, gR_189_0, aI_190, sI_190, gR_189_1, aI_191, sI_191, gR_189_3, aI_192, gR_189_10, aI_193, sI_193, gR_189_11, aI_194, sI_194, gR_189_13, aI_195, sI_195, gR_189_15, aI_196, sI_196, gR_189_17, aI_197, sI_197, gR_189_18, aI_198, sI_198, gR_189_19, aI_199, sI_199, gR_189_20, aI_200, sI_200, gR_189_23, aI_201, gR_189_24, aI_202, sI_202, gR_189_25, aI_203, sI_203, gR_189_29, aI_204, sI_204, gR_189_32, aI_205, sI_205, gR_189_35, aI_206, sI_206, pZ_189, gL_189, pL_189]
    generalize hz2 : up (up z' 202 0 (-1)) 203 0 1 = z2
    have hF2 : FrS z z2 := fun c a b d => by rw [← hz2, up_row d, up_row b]; exact hz c a
    have hdd : Dd f e m tol (f 6).toNat (z2 201) := by
      rw [← hz2, up_row (by decide), up_row (by decide)]
      refine ⟨fun i a b => Or.inl (h0 i a b), fun k' o b a1 a2 a3 a4 a5 hx => ?_⟩
      rw [h0 _ (by unfold dix; omega) (by unfold dix; omega)] at hx; omega
    have eN : f 6 = ((f 6).toNat : Int) := by omega
    have := m_search (p := p) (l := l) hq hq' (Rw_congr (hF2 190 (by decide) (by decide) (by decide)) hf) hP (Ed_S hF2 hE) he hs hsm hg hm2 eN hdd (by rw [← hz2, up_row (by decide), up_same]) (by rw [← hz2, up_same])
    rw [← eN] at this
    refine W_imp this ?_
    rintro _ ⟨v, z3, rfl, b1, b2⟩
    exact ⟨v, z3, rfl, fun c a b d => (b1 c a b d).trans (hF2 c a b d), b2⟩
theorem m_codeOf {q s m n tol : Int} {d e f : Int → Int} (hq : 0 ≤ q) (hq' : q < 6) (hf : Rw z q f) (hP : PV f) (hE : Ed z n d tol) (he : ∀ i, e i = d (s + i)) (hs : 0 ≤ s) (hsm : s + m ≤ n) (hm : 1 ≤ m) (hm2 : m % 2 = 1) : WP (f_X12_codeOf 189 (I3 q) (I3 s) (I3 m) (M p z l)) (fun r => ∃ v z', r = (I3 v, M p z' l) ∧ FrS z z' ∧ xres (xcode f e m tol) v) := by
  have hP' := hP
  obtain ⟨p0, p1, p2, p3, p4, p5, p6, p7⟩ := hP'
  have h0 := hf 0 (by omega) (by omega)
  have h1 := hf 1 (by omega) (by omega)
  have h2 := hf 2 (by omega) (by omega)
  have h3 := hf 3 (by omega) (by omega)
  have h6 := hf 6 (by omega) (by omega)
  rw [Int.add_zero] at h0
  have hn := hE.2.1
  -- bits in order, or none
  have fin : ∀ (z1 : Nat → Int → Int) (v : Int), FrS z z1 → (v = -1 ∧ xcode f e m tol = -9 ∨ ∃ b : Int → Int, (∀ j : Nat, b j = 0 ∨ b j = 1) ∧ v = bvs b (f 6).toNat ∧ xcode f e m tol = csum f b (f 6).toNat) → WP (f_X12_codeOf_211 189 (I3 q) (I3 v) (M p z1 l)) (fun r => ∃ v z', r = (I3 v, M p z' l) ∧ FrS z z' ∧ xres (xcode f e m tol) v) := by
    intro z1 v hz1 hv
    have hf1 : Rw z1 q f := Rw_congr (hz1 190 (by decide) (by decide) (by decide)) hf
    unfold f_X12_codeOf_211
    rcases hv with ⟨rfl, hv⟩ | ⟨b, hb, rfl, hv⟩
    · simp (disch := first | assumption | omega) only [↓b_hid, bH_some, ↓hid_W, ↓W_ite, WI_t, WI_f, W_some, I3_a, I3_s, I3_m, I3_n, I3_l, I3_lt, I3_le, I3_e, I3_dv, I3_rm, I3_mx, I3_mn, I3_ab, cI, bI_0, bI_1, rZ_b, up_same, up_row, up_col, xr_some, LQ_r, LQ_l, Int.sub_self, Int.add_zero, Int.zero_add, Int.sub_zero, Int.neg_neg, not_true_eq_false, not_false_eq_true, Int.add_sub_cancel, WI_pos, WI_neg]
      exact ⟨-1, z1, rfl, hz1, Or.inl ⟨hv, rfl⟩⟩
    · have hr := bvs_r b hb (f 6).toNat
      have hr16 := pw16 (n := (f 6).toNat) (by omega)
      have ho := m_ordered (p := p) (l := l) hq hq' hf1 hP hb
      have hc := csum_nn f b hb p5.2 (by omega)
      simp (disch := first | assumption | omega) only [↓b_hid, bH_some, ↓hid_W, ↓W_ite, WI_t, WI_f, W_some, I3_a, I3_s, I3_m, I3_n, I3_l, I3_lt, I3_le, I3_e, I3_dv, I3_rm, I3_mx, I3_mn, I3_ab, cI, bI_0, bI_1, rZ_b, up_same, up_row, up_col, xr_some, LQ_r, LQ_l, Int.sub_self, Int.add_zero, Int.zero_add, Int.sub_zero, Int.neg_neg, not_true_eq_false, not_false_eq_true, Int.add_sub_cancel, gI_189, pI_189, iO_189, gR_189_0, aI_190, sI_190, gR_189_1, aI_191, sI_191, gR_189_3, aI_192, gR_189_10, aI_193, sI_193, gR_189_11, aI_194, sI_194, gR_189_13, aI_195, sI_195, gR_189_15, aI_196, sI_196, gR_189_17, aI_197, sI_197, gR_189_18, aI_198, sI_198, gR_189_19, aI_199, sI_199, gR_189_20, aI_200, sI_200, gR_189_23, aI_201, gR_189_24, aI_202, sI_202, gR_189_25, aI_203, sI_203, gR_189_29, aI_204, sI_204, gR_189_32, aI_205, sI_205, gR_189_35, aI_206, sI_206, pZ_189, gL_189, pL_189, ho, WI_pos, WI_neg]
      exact ⟨_, z1, rfl, hz1, Or.inr ⟨by omega, hv.symm⟩⟩
  unfold f_X12_codeOf
  by_cases hk2 : f 0 = 2
  · have ex : xcode f e m tol = phcode f e m tol := by unfold xcode; rw [if_pos hk2]
    simp (disch := first | assumption | omega) only [↓b_hid, bH_some, ↓hid_W, ↓W_ite, WI_t, WI_f, W_some, I3_a, I3_s, I3_m, I3_n, I3_l, I3_lt, I3_le, I3_e, I3_dv, I3_rm, I3_mx, I3_mn, I3_ab, cI, bI_0, bI_1, rZ_b, up_same, up_row, up_col, xr_some, LQ_r, LQ_l, Int.sub_self, Int.add_zero, Int.zero_add, Int.sub_zero, Int.neg_neg, not_true_eq_false, not_false_eq_true, Int.add_sub_cancel, gI_189, pI_189, iO_189, gR_189_0, aI_190, sI_190, gR_189_1, aI_191, sI_191, gR_189_3, aI_192, gR_189_10, aI_193, sI_193, gR_189_11, aI_194, sI_194, gR_189_13, aI_195, sI_195, gR_189_15, aI_196, sI_196, gR_189_17, aI_197, sI_197, gR_189_18, aI_198, sI_198, gR_189_19, aI_199, sI_199, gR_189_20, aI_200, sI_200, gR_189_23, aI_201, gR_189_24, aI_202, sI_202, gR_189_25, aI_203, sI_203, gR_189_29, aI_204, sI_204, gR_189_32, aI_205, sI_205, gR_189_35, aI_206, sI_206, pZ_189, gL_189, pL_189, m_at, h6, h0, WI_pos, WI_neg]
    refine W_bH (W_imp (m_readsPhase hq hq' hf hP hE he hs hsm hm hm2) ?_)
    rintro _ ⟨v, z1, rfl, a1, a2⟩
    refine fin z1 v a1 ?_
    rw [ex]; exact a2
  · have ex : xcode f e m tol = pcode f e m tol := by unfold xcode; rw [if_neg hk2]
    have bad : ¬pok f e m tol → WP (f_X12_codeOf_171 189 (I3 q) (I3 s) (I3 (4 + 9 * q)) (M p z l)) (fun r => ∃ v z', r = (I3 v, M p z' l) ∧ FrS z z' ∧ xres (xcode f e m tol) v) := by
      intro h
      have := fin z (-1) (fun _ _ _ _ => rfl) (Or.inl ⟨rfl, by rw [ex]; exact cif_f h⟩)
      unfold f_X12_codeOf_171 f_X12_codeOf_172 f_X12_codeOf_209
      simp (disch := first | assumption | omega) only [↓b_hid, bH_some, ↓hid_W, ↓W_ite, WI_t, WI_f, W_some, I3_a, I3_s, I3_m, I3_n, I3_l, I3_lt, I3_le, I3_e, I3_dv, I3_rm, I3_mx, I3_mn, I3_ab, cI, bI_0, bI_1, rZ_b, up_same, up_row, up_col, xr_some, LQ_r, LQ_l, Int.sub_self, Int.add_zero, Int.zero_add, Int.sub_zero, Int.neg_neg, not_true_eq_false, not_false_eq_true, Int.add_sub_cancel, WI_pos, WI_neg]
      exact this
    have bad2 : ¬pok f e m tol → WP (f_X12_codeOf_119 189 (I3 q) (I3 s) (I3 m) (I3 (4 + 9 * q)) (M p z l)) (fun r => ∃ v z', r = (I3 v, M p z' l) ∧ FrS z z' ∧ xres (xcode f e m tol) v) := by
      intro h
      unfold f_X12_codeOf_119 f_X12_codeOf_120
      simp (disch := first | assumption | omega) only [↓b_hid, bH_some, ↓hid_W, ↓W_ite, WI_t, WI_f, W_some, I3_a, I3_s, I3_m, I3_n, I3_l, I3_lt, I3_le, I3_e, I3_dv, I3_rm, I3_mx, I3_mn, I3_ab, cI, bI_0, bI_1, rZ_b, up_same, up_row, up_col, xr_some, LQ_r, LQ_l, Int.sub_self, Int.add_zero, Int.zero_add, Int.sub_zero, Int.neg_neg, not_true_eq_false, not_false_eq_true, Int.add_sub_cancel, WI_pos, WI_neg]
      exact bad h
    have p4' : (50 ≤ f 4 ∧ f 4 ≤ 20000) ∧ (50 ≤ f 5 ∧ f 5 ≤ 20000) := by
      rcases p4 with h | h
      · exact absurd h.1 hk2
      · exact h.2
    have core : ∀ oth a1 a2 : Int, oth = (if f 0 = 1 then 1 else 3) → a1 = (if f 0 = 1 then 3 else 2) → a2 = (if f 0 = 1 then 2 else 3) → WP (f_X12_codeOf_65 189 (I3 q) (I3 s) (I3 m) (I3 (4 + 9 * q)) (I3 oth) (I3 (2 * f 6)) (I3 m) (M p z l)) (fun r => ∃ v z', r = (I3 v, M p z' l) ∧ FrS z z' ∧ xres (xcode f e m tol) v) := by
      intro oth a1 a2 ho ha1 ha2
      have hop : (f 0 = 1 ∧ oth = 1 ∧ a1 = 3 ∧ a2 = 2) ∨ (f 0 = 0 ∧ oth = 3 ∧ a1 = 2 ∧ a2 = 3) := by
        by_cases h1 : f 0 = 1
        · rw [if_pos h1] at ho ha1 ha2; exact Or.inl ⟨h1, ho, ha1, ha2⟩
        · rw [if_neg h1] at ho ha1 ha2; exact Or.inr ⟨by omega, ho, ha1, ha2⟩
      unfold f_X12_codeOf_65
      simp (disch := first | assumption | omega) only [↓b_hid, bH_some, ↓hid_W, ↓W_ite, WI_t, WI_f, W_some, I3_a, I3_s, I3_m, I3_n, I3_l, I3_lt, I3_le, I3_e, I3_dv, I3_rm, I3_mx, I3_mn, I3_ab, cI, bI_0, bI_1, rZ_b, up_same, up_row, up_col, xr_some, LQ_r, LQ_l, Int.sub_self, Int.add_zero, Int.zero_add, Int.sub_zero, Int.neg_neg, not_true_eq_false, not_false_eq_true, Int.add_sub_cancel]
      refine WI_i (fun hmm => ?_) (fun hmm => ?_)
      · have z0 := m_rz hE (show 0 ≤ s by omega) (by omega)
        have z1 := m_rz hE (show 0 ≤ s + 1 by omega) (by omega)
        have x0 := m_mat (p := p) (l := l) hE (show 0 ≤ s by omega) (by omega) (show 0 ≤ f 1 by omega) (by omega)
        have x1 := m_mat (p := p) (l := l) hE (show 0 ≤ s + 1 by omega) (by omega) (show 0 ≤ f 2 by omega) (by omega)
        have e0 := he 0
        rw [Int.add_zero] at e0
        have e1 := he 1
        simp (disch := first | assumption | omega) only [↓b_hid, bH_some, ↓hid_W, ↓W_ite, WI_t, WI_f, W_some, I3_a, I3_s, I3_m, I3_n, I3_l, I3_lt, I3_le, I3_e, I3_dv, I3_rm, I3_mx, I3_mn, I3_ab, cI, bI_0, bI_1, rZ_b, up_same, up_row, up_col, xr_some, LQ_r, LQ_l, Int.sub_self, Int.add_zero, Int.zero_add, Int.sub_zero, Int.neg_neg, not_true_eq_false, not_false_eq_true, Int.add_sub_cancel, gI_189, pI_189, iO_189, gR_189_0, aI_190, sI_190, gR_189_1, aI_191, sI_191, gR_189_3, aI_192, gR_189_10, aI_193, sI_193, gR_189_11, aI_194, sI_194, gR_189_13, aI_195, sI_195, gR_189_15, aI_196, sI_196, gR_189_17, aI_197, sI_197, gR_189_18, aI_198, sI_198, gR_189_19, aI_199, sI_199, gR_189_20, aI_200, sI_200, gR_189_23, aI_201, gR_189_24, aI_202, sI_202, gR_189_25, aI_203, sI_203, gR_189_29, aI_204, sI_204, gR_189_32, aI_205, sI_205, gR_189_35, aI_206, sI_206, pZ_189, gL_189, pL_189, z0, h1, x0]
        refine WI_i (fun h => ?_) (fun hh => ?_)
        · simp (disch := first | assumption | omega) only [↓b_hid, bH_some, ↓hid_W, ↓W_ite, WI_t, WI_f, W_some, I3_a, I3_s, I3_m, I3_n, I3_l, I3_lt, I3_le, I3_e, I3_dv, I3_rm, I3_mx, I3_mn, I3_ab, cI, bI_0, bI_1, rZ_b, up_same, up_row, up_col, xr_some, LQ_r, LQ_l, Int.sub_self, Int.add_zero, Int.zero_add, Int.sub_zero, Int.neg_neg, not_true_eq_false, not_false_eq_true, Int.add_sub_cancel]; exact bad2 (by rintro ⟨_, hx, _⟩; rw [e0] at hx; exact h hx)
        simp (disch := first | assumption | omega) only [↓b_hid, bH_some, ↓hid_W, ↓W_ite, WI_t, WI_f, W_some, I3_a, I3_s, I3_m, I3_n, I3_l, I3_lt, I3_le, I3_e, I3_dv, I3_rm, I3_mx, I3_mn, I3_ab, cI, bI_0, bI_1, rZ_b, up_same, up_row, up_col, xr_some, LQ_r, LQ_l, Int.sub_self, Int.add_zero, Int.zero_add, Int.sub_zero, Int.neg_neg, not_true_eq_false, not_false_eq_true, Int.add_sub_cancel, gI_189, pI_189, iO_189, gR_189_0, aI_190, sI_190, gR_189_1, aI_191, sI_191, gR_189_3, aI_192, gR_189_10, aI_193, sI_193, gR_189_11, aI_194, sI_194, gR_189_13, aI_195, sI_195, gR_189_15, aI_196, sI_196, gR_189_17, aI_197, sI_197, gR_189_18, aI_198, sI_198, gR_189_19, aI_199, sI_199, gR_189_20, aI_200, sI_200, gR_189_23, aI_201, gR_189_24, aI_202, sI_202, gR_189_25, aI_203, sI_203, gR_189_29, aI_204, sI_204, gR_189_32, aI_205, sI_205, gR_189_35, aI_206, sI_206, pZ_189, gL_189, pL_189, z1, h2, x1]
        refine WI_i (fun h => ?_) (fun hss => ?_)
        · simp (disch := first | assumption | omega) only [↓b_hid, bH_some, ↓hid_W, ↓W_ite, WI_t, WI_f, W_some, I3_a, I3_s, I3_m, I3_n, I3_l, I3_lt, I3_le, I3_e, I3_dv, I3_rm, I3_mx, I3_mn, I3_ab, cI, bI_0, bI_1, rZ_b, up_same, up_row, up_col, xr_some, LQ_r, LQ_l, Int.sub_self, Int.add_zero, Int.zero_add, Int.sub_zero, Int.neg_neg, not_true_eq_false, not_false_eq_true, Int.add_sub_cancel]; exact bad2 (by rintro ⟨_, _, hx, _⟩; rw [e1] at hx; exact h hx)
        unfold f_X12_codeOf_120
        -- the durations that are A
        have mid : WP (f_X12_codeOf_149 189 (I3 q) (I3 s) (I3 m) (I3 (4 + 9 * q)) (I3 (s + a1)) 189 (M p z l)) (fun r => ∃ v z', r = (I3 v, M p z' l) ∧ FrS z z' ∧ xres (xcode f e m tol) v) := by
          unfold f_X12_codeOf_149
          simp (disch := first | assumption | omega) only [↓b_hid, bH_some, ↓hid_W, ↓W_ite, WI_t, WI_f, W_some, I3_a, I3_s, I3_m, I3_n, I3_l, I3_lt, I3_le, I3_e, I3_dv, I3_rm, I3_mx, I3_mn, I3_ab, cI, bI_0, bI_1, rZ_b, up_same, up_row, up_col, xr_some, LQ_r, LQ_l, Int.sub_self, Int.add_zero, Int.zero_add, Int.sub_zero, Int.neg_neg, not_true_eq_false, not_false_eq_true, Int.add_sub_cancel, gI_189, pI_189, iO_189, gR_189_0, aI_190, sI_190, gR_189_1, aI_191, sI_191, gR_189_3, aI_192, gR_189_10, aI_193, sI_193, gR_189_11, aI_194, sI_194, gR_189_13, aI_195, sI_195, gR_189_15, aI_196, sI_196, gR_189_17, aI_197, sI_197, gR_189_18, aI_198, sI_198, gR_189_19, aI_199, sI_199, gR_189_20, aI_200, sI_200, gR_189_23, aI_201, gR_189_24, aI_202, sI_202, gR_189_25, aI_203, sI_203, gR_189_29, aI_204, sI_204, gR_189_32, aI_205, sI_205, gR_189_35, aI_206, sI_206, pZ_189, gL_189, pL_189, h3]
          refine W_bH (W_imp (m_match hE (by omega) (by omega) (by omega) (by omega) (by omega)) ?_)
          rintro _ ⟨v, rfl, hv⟩
          have hiff : (∀ k, s + a1 ≤ k → k < s + m → (k - (s + a1)) % 2 = 0 → mt (d k) (f 3) tol) ↔ (∀ i, 2 ≤ i → i < m → i % 2 ≠ (if f 0 = 1 then 0 else 1) → mt (e i) (f 3) tol) := by
            constructor
            · intro hx i i0 i1 i2
              rw [he]
              rcases hop with ⟨b1, b2, b3, b4⟩ | ⟨b1, b2, b3, b4⟩
              · rw [if_pos b1] at i2; exact hx (s + i) (by omega) (by omega) (by omega)
              · rw [if_neg (by omega)] at i2; exact hx (s + i) (by omega) (by omega) (by omega)
            · intro hx k k0 k1 k2
              have := hx (k - s) (by omega) (by omega) (by
                rcases hop with ⟨b1, b2, b3, b4⟩ | ⟨b1, b2, b3, b4⟩
                · rw [if_pos b1]; omega
                · rw [if_neg (by omega)]; omega)
              rw [he, show s + (k - s) = k by omega] at this; exact this
          rcases hv with ⟨rfl, hv⟩ | ⟨rfl, hv⟩
          · simp (disch := first | assumption | omega) only [↓b_hid, bH_some, ↓hid_W, ↓W_ite, WI_t, WI_f, W_some, I3_a, I3_s, I3_m, I3_n, I3_l, I3_lt, I3_le, I3_e, I3_dv, I3_rm, I3_mx, I3_mn, I3_ab, cI, bI_0, bI_1, rZ_b, up_same, up_row, up_col, xr_some, LQ_r, LQ_l, Int.sub_self, Int.add_zero, Int.zero_add, Int.sub_zero, Int.neg_neg, not_true_eq_false, not_false_eq_true, Int.add_sub_cancel, WI_pos, WI_neg]
            have hA := hiff.mp hv
            have last : WP (f_X12_codeOf_202 189 (I3 q) (I3 (s + a2)) (I3 q) 189 (M p z l)) (fun r => ∃ v z', r = (I3 v, M p z' l) ∧ FrS z z' ∧ xres (xcode f e m tol) v) := by
              unfold f_X12_codeOf_202 f_X12_codeOf_209
              simp (disch := first | assumption | omega) only [↓b_hid, bH_some, ↓hid_W, ↓W_ite, WI_t, WI_f, W_some, I3_a, I3_s, I3_m, I3_n, I3_l, I3_lt, I3_le, I3_e, I3_dv, I3_rm, I3_mx, I3_mn, I3_ab, cI, bI_0, bI_1, rZ_b, up_same, up_row, up_col, xr_some, LQ_r, LQ_l, Int.sub_self, Int.add_zero, Int.zero_add, Int.sub_zero, Int.neg_neg, not_true_eq_false, not_false_eq_true, Int.add_sub_cancel, gI_189, pI_189, iO_189, gR_189_0, aI_190, sI_190, gR_189_1, aI_191, sI_191, gR_189_3, aI_192, gR_189_10, aI_193, sI_193, gR_189_11, aI_194, sI_194, gR_189_13, aI_195, sI_195, gR_189_15, aI_196, sI_196, gR_189_17, aI_197, sI_197, gR_189_18, aI_198, sI_198, gR_189_19, aI_199, sI_199, gR_189_20, aI_200, sI_200, gR_189_23, aI_201, gR_189_24, aI_202, sI_202, gR_189_25, aI_203, sI_203, gR_189_29, aI_204, sI_204, gR_189_32, aI_205, sI_205, gR_189_35, aI_206, sI_206, pZ_189, gL_189, pL_189]
              refine W_bH (W_imp (m_readsBits hq hq' hf hP hk2 hE (show 0 ≤ s + a2 by omega) (by omega)) ?_)
              rintro _ ⟨v, rfl, hv⟩
              have hbp : ∀ k, d (s + a2 + 2 * k) = e (bpos f k) := by
                intro k; rw [he]; congr 1
                unfold bpos
                rcases hop with ⟨b1, b2, b3, b4⟩ | ⟨b1, b2, b3, b4⟩
                · rw [if_pos b1]; omega
                · rw [if_neg (by omega)]; omega
              have hfun : (fun k => cif (mt (d (s + a2 + 2 * k)) (f 4) tol) 0 1) = pbv f e tol := by
                funext k; rw [hbp]; rfl
              rw [hfun] at hv
              simp only [hbp] at hv
              refine fin z v (fun _ _ _ _ => rfl) ?_
              rw [ex]
              rcases hv with ⟨h1, h2⟩ | ⟨h1, h2⟩
              · refine Or.inr ⟨pbv f e tol, pbv_r f e tol, h1, cif_t ⟨by rw [hmm, ho], ?_, ?_, hA, h2⟩⟩
                · rw [e0]; exact Classical.byContradiction hh
                · rw [e1]; exact Classical.byContradiction hss
              · exact Or.inl ⟨h1, cif_f (fun hx => h2 hx.2.2.2.2)⟩
            unfold f_X12_codeOf_172
            simp (disch := first | assumption | omega) only [↓b_hid, bH_some, ↓hid_W, ↓W_ite, WI_t, WI_f, W_some, I3_a, I3_s, I3_m, I3_n, I3_l, I3_lt, I3_le, I3_e, I3_dv, I3_rm, I3_mx, I3_mn, I3_ab, cI, bI_0, bI_1, rZ_b, up_same, up_row, up_col, xr_some, LQ_r, LQ_l, Int.sub_self, Int.add_zero, Int.zero_add, Int.sub_zero, Int.neg_neg, not_true_eq_false, not_false_eq_true, Int.add_sub_cancel, gI_189, pI_189, iO_189, gR_189_0, aI_190, sI_190, gR_189_1, aI_191, sI_191, gR_189_3, aI_192, gR_189_10, aI_193, sI_193, gR_189_11, aI_194, sI_194, gR_189_13, aI_195, sI_195, gR_189_15, aI_196, sI_196, gR_189_17, aI_197, sI_197, gR_189_18, aI_198, sI_198, gR_189_19, aI_199, sI_199, gR_189_20, aI_200, sI_200, gR_189_23, aI_201, gR_189_24, aI_202, sI_202, gR_189_25, aI_203, sI_203, gR_189_29, aI_204, sI_204, gR_189_32, aI_205, sI_205, gR_189_35, aI_206, sI_206, pZ_189, gL_189, pL_189, h0, WI_pos, WI_neg]
            rcases hop with ⟨b1, b2, b3, b4⟩ | ⟨b1, b2, b3, b4⟩
            · simp (disch := first | assumption | omega) only [↓b_hid, bH_some, ↓hid_W, ↓W_ite, WI_t, WI_f, W_some, I3_a, I3_s, I3_m, I3_n, I3_l, I3_lt, I3_le, I3_e, I3_dv, I3_rm, I3_mx, I3_mn, I3_ab, cI, bI_0, bI_1, rZ_b, up_same, up_row, up_col, xr_some, LQ_r, LQ_l, Int.sub_self, Int.add_zero, Int.zero_add, Int.sub_zero, Int.neg_neg, not_true_eq_false, not_false_eq_true, Int.add_sub_cancel, WI_pos, WI_neg]; rw [b4] at last; exact last
            · simp (disch := first | assumption | omega) only [↓b_hid, bH_some, ↓hid_W, ↓W_ite, WI_t, WI_f, W_some, I3_a, I3_s, I3_m, I3_n, I3_l, I3_lt, I3_le, I3_e, I3_dv, I3_rm, I3_mx, I3_mn, I3_ab, cI, bI_0, bI_1, rZ_b, up_same, up_row, up_col, xr_some, LQ_r, LQ_l, Int.sub_self, Int.add_zero, Int.zero_add, Int.sub_zero, Int.neg_neg, not_true_eq_false, not_false_eq_true, Int.add_sub_cancel, WI_pos, WI_neg]; rw [b4] at last; exact last
          · simp (disch := first | assumption | omega) only [↓b_hid, bH_some, ↓hid_W, ↓W_ite, WI_t, WI_f, W_some, I3_a, I3_s, I3_m, I3_n, I3_l, I3_lt, I3_le, I3_e, I3_dv, I3_rm, I3_mx, I3_mn, I3_ab, cI, bI_0, bI_1, rZ_b, up_same, up_row, up_col, xr_some, LQ_r, LQ_l, Int.sub_self, Int.add_zero, Int.zero_add, Int.sub_zero, Int.neg_neg, not_true_eq_false, not_false_eq_true, Int.add_sub_cancel, WI_pos, WI_neg]
            exact bad (fun hx => hv (hiff.mpr hx.2.2.2.1))
        simp (disch := first | assumption | omega) only [↓b_hid, bH_some, ↓hid_W, ↓W_ite, WI_t, WI_f, W_some, I3_a, I3_s, I3_m, I3_n, I3_l, I3_lt, I3_le, I3_e, I3_dv, I3_rm, I3_mx, I3_mn, I3_ab, cI, bI_0, bI_1, rZ_b, up_same, up_row, up_col, xr_some, LQ_r, LQ_l, Int.sub_self, Int.add_zero, Int.zero_add, Int.sub_zero, Int.neg_neg, not_true_eq_false, not_false_eq_true, Int.add_sub_cancel, gI_189, pI_189, iO_189, gR_189_0, aI_190, sI_190, gR_189_1, aI_191, sI_191, gR_189_3, aI_192, gR_189_10, aI_193, sI_193, gR_189_11, aI_194, sI_194, gR_189_13, aI_195, sI_195, gR_189_15, aI_196, sI_196, gR_189_17, aI_197, sI_197, gR_189_18, aI_198, sI_198, gR_189_19, aI_199, sI_199, gR_189_20, aI_200, sI_200, gR_189_23, aI_201, gR_189_24, aI_202, sI_202, gR_189_25, aI_203, sI_203, gR_189_29, aI_204, sI_204, gR_189_32, aI_205, sI_205, gR_189_35, aI_206, sI_206, pZ_189, gL_189, pL_189, h0, WI_pos, WI_neg]
        rcases hop with ⟨b1, b2, b3, b4⟩ | ⟨b1, b2, b3, b4⟩
        · simp (disch := first | assumption | omega) only [↓b_hid, bH_some, ↓hid_W, ↓W_ite, WI_t, WI_f, W_some, I3_a, I3_s, I3_m, I3_n, I3_l, I3_lt, I3_le, I3_e, I3_dv, I3_rm, I3_mx, I3_mn, I3_ab, cI, bI_0, bI_1, rZ_b, up_same, up_row, up_col, xr_some, LQ_r, LQ_l, Int.sub_self, Int.add_zero, Int.zero_add, Int.sub_zero, Int.neg_neg, not_true_eq_false, not_false_eq_true, Int.add_sub_cancel, WI_pos, WI_neg]; rw [b3] at mid; exact mid
        · simp (disch := first | assumption | omega) only [↓b_hid, bH_some, ↓hid_W, ↓W_ite, WI_t, WI_f, W_some, I3_a, I3_s, I3_m, I3_n, I3_l, I3_lt, I3_le, I3_e, I3_dv, I3_rm, I3_mx, I3_mn, I3_ab, cI, bI_0, bI_1, rZ_b, up_same, up_row, up_col, xr_some, LQ_r, LQ_l, Int.sub_self, Int.add_zero, Int.zero_add, Int.sub_zero, Int.neg_neg, not_true_eq_false, not_false_eq_true, Int.add_sub_cancel, WI_pos, WI_neg]; rw [b3] at mid; exact mid
      · simp (disch := first | assumption | omega) only [↓b_hid, bH_some, ↓hid_W, ↓W_ite, WI_t, WI_f, W_some, I3_a, I3_s, I3_m, I3_n, I3_l, I3_lt, I3_le, I3_e, I3_dv, I3_rm, I3_mx, I3_mn, I3_ab, cI, bI_0, bI_1, rZ_b, up_same, up_row, up_col, xr_some, LQ_r, LQ_l, Int.sub_self, Int.add_zero, Int.zero_add, Int.sub_zero, Int.neg_neg, not_true_eq_false, not_false_eq_true, Int.add_sub_cancel]; exact bad2 (by rintro ⟨hx, _⟩; rw [← ho] at hx; exact hmm hx)
    simp (disch := first | assumption | omega) only [↓b_hid, bH_some, ↓hid_W, ↓W_ite, WI_t, WI_f, W_some, I3_a, I3_s, I3_m, I3_n, I3_l, I3_lt, I3_le, I3_e, I3_dv, I3_rm, I3_mx, I3_mn, I3_ab, cI, bI_0, bI_1, rZ_b, up_same, up_row, up_col, xr_some, LQ_r, LQ_l, Int.sub_self, Int.add_zero, Int.zero_add, Int.sub_zero, Int.neg_neg, not_true_eq_false, not_false_eq_true, Int.add_sub_cancel, gI_189, pI_189, iO_189, gR_189_0, aI_190, sI_190, gR_189_1, aI_191, sI_191, gR_189_3, aI_192, gR_189_10, aI_193, sI_193, gR_189_11, aI_194, sI_194, gR_189_13, aI_195, sI_195, gR_189_15, aI_196, sI_196, gR_189_17, aI_197, sI_197, gR_189_18, aI_198, sI_198, gR_189_19, aI_199, sI_199, gR_189_20, aI_200, sI_200, gR_189_23, aI_201, gR_189_24, aI_202, sI_202, gR_189_25, aI_203, sI_203, gR_189_29, aI_204, sI_204, gR_189_32, aI_205, sI_205, gR_189_35, aI_206, sI_206, pZ_189, gL_189, pL_189, m_at, h6, h0, WI_pos, WI_neg]
    refine WI_i (fun hk0 => ?_) (fun hk0 => ?_)
    · simp (disch := first | assumption | omega) only [↓b_hid, bH_some, ↓hid_W, ↓W_ite, WI_t, WI_f, W_some, I3_a, I3_s, I3_m, I3_n, I3_l, I3_lt, I3_le, I3_e, I3_dv, I3_rm, I3_mx, I3_mn, I3_ab, cI, bI_0, bI_1, rZ_b, up_same, up_row, up_col, xr_some, LQ_r, LQ_l, Int.sub_self, Int.add_zero, Int.zero_add, Int.sub_zero, Int.neg_neg, not_true_eq_false, not_false_eq_true, Int.add_sub_cancel]; exact core 3 2 3 (by rw [if_neg (by omega)]) (by rw [if_neg (by omega)]) (by rw [if_neg (by omega)])
    · simp (disch := first | assumption | omega) only [↓b_hid, bH_some, ↓hid_W, ↓W_ite, WI_t, WI_f, W_some, I3_a, I3_s, I3_m, I3_n, I3_l, I3_lt, I3_le, I3_e, I3_dv, I3_rm, I3_mx, I3_mn, I3_ab, cI, bI_0, bI_1, rZ_b, up_same, up_row, up_col, xr_some, LQ_r, LQ_l, Int.sub_self, Int.add_zero, Int.zero_add, Int.sub_zero, Int.neg_neg, not_true_eq_false, not_false_eq_true, Int.add_sub_cancel]; exact core 1 3 2 (by rw [if_pos (by omega)]) (by rw [if_pos (by omega)]) (by rw [if_pos (by omega)])
theorem m_isShort {q s m n tol : Int} {d e f : Int → Int} (hq : 0 ≤ q) (hq' : q < 6) (hf : Rw z q f) (hP : PV f) (hE : Ed z n d tol) (he : ∀ i, e i = d (s + i)) (hs : 0 ≤ s) (hsm : s + m ≤ n) (hm : 1 ≤ m) : WP (f_X12_isShort 189 (I3 q) (I3 s) (I3 m) (M p z l)) (fun r => ∃ v, r = (I3 v, M p z l) ∧ (v = 1 ∧ xshort f e m tol ∨ v = 0 ∧ ¬xshort f e m tol)) := by
  obtain ⟨p0, p1, p2, p3, p4, p5, p6, p7⟩ := hP
  have h8 := hf 8 (by omega) (by omega)
  have h1 := hf 1 (by omega) (by omega)
  have h2 := hf 2 (by omega) (by omega)
  have h3 := hf 3 (by omega) (by omega)
  have hn := hE.2.1
  have e0 := he 0
  rw [Int.add_zero] at e0
  have e1 := he 1
  have e2 := he 2
  have no : ¬xshort f e m tol → ∃ v, ((I3 0, M p z l) : Int32 × MS) = (I3 v, M p z l) ∧ (v = 1 ∧ xshort f e m tol ∨ v = 0 ∧ ¬xshort f e m tol) := fun h => ⟨0, rfl, Or.inr ⟨rfl, h⟩⟩
  unfold f_X12_isShort
  simp (disch := first | assumption | omega) only [↓b_hid, bH_some, ↓hid_W, ↓W_ite, WI_t, WI_f, W_some, I3_a, I3_s, I3_m, I3_n, I3_l, I3_lt, I3_le, I3_e, I3_dv, I3_rm, I3_mx, I3_mn, I3_ab, cI, bI_0, bI_1, rZ_b, up_same, up_row, up_col, xr_some, LQ_r, LQ_l, Int.sub_self, Int.add_zero, Int.zero_add, Int.sub_zero, Int.neg_neg, not_true_eq_false, not_false_eq_true, Int.add_sub_cancel, gI_189, pI_189, iO_189, gR_189_0, aI_190, sI_190, gR_189_1, aI_191, sI_191, gR_189_3, aI_192, gR_189_10, aI_193, sI_193, gR_189_11, aI_194, sI_194, gR_189_13, aI_195, sI_195, gR_189_15, aI_196, sI_196, gR_189_17, aI_197, sI_197, gR_189_18, aI_198, sI_198, gR_189_19, aI_199, sI_199, gR_189_20, aI_200, sI_200, gR_189_23, aI_201, gR_189_24, aI_202, sI_202, gR_189_25, aI_203, sI_203, gR_189_29, aI_204, sI_204, gR_189_32, aI_205, sI_205, gR_189_35, aI_206, sI_206, pZ_189, gL_189, pL_189, m_at, h8]
  refine WI_i (fun hr => ?_) (fun hr => ?_)
  · simp (disch := first | assumption | omega) only [↓b_hid, bH_some, ↓hid_W, ↓W_ite, WI_t, WI_f, W_some, I3_a, I3_s, I3_m, I3_n, I3_l, I3_lt, I3_le, I3_e, I3_dv, I3_rm, I3_mx, I3_mn, I3_ab, cI, bI_0, bI_1, rZ_b, up_same, up_row, up_col, xr_some, LQ_r, LQ_l, Int.sub_self, Int.add_zero, Int.zero_add, Int.sub_zero, Int.neg_neg, not_true_eq_false, not_false_eq_true, Int.add_sub_cancel]
    refine WI_i (fun hmm => ?_) (fun hmm => ?_)
    · have z0 := m_rz hE (show 0 ≤ s by omega) (by omega)
      have z1 := m_rz hE (show 0 ≤ s + 1 by omega) (by omega)
      have z2 := m_rz hE (show 0 ≤ s + 2 by omega) (by omega)
      have x0 := m_mat (p := p) (l := l) hE (show 0 ≤ s by omega) (by omega) (show 0 ≤ f 1 by omega) (by omega)
      have x1 := m_mat (p := p) (l := l) hE (show 0 ≤ s + 1 by omega) (by omega) (show 0 ≤ f 2 / 2 by omega) (by omega)
      have x2 := m_mat (p := p) (l := l) hE (show 0 ≤ s + 2 by omega) (by omega) (show 0 ≤ f 3 by omega) (by omega)
      simp (disch := first | assumption | omega) only [↓b_hid, bH_some, ↓hid_W, ↓W_ite, WI_t, WI_f, W_some, I3_a, I3_s, I3_m, I3_n, I3_l, I3_lt, I3_le, I3_e, I3_dv, I3_rm, I3_mx, I3_mn, I3_ab, cI, bI_0, bI_1, rZ_b, up_same, up_row, up_col, xr_some, LQ_r, LQ_l, Int.sub_self, Int.add_zero, Int.zero_add, Int.sub_zero, Int.neg_neg, not_true_eq_false, not_false_eq_true, Int.add_sub_cancel, gI_189, pI_189, iO_189, gR_189_0, aI_190, sI_190, gR_189_1, aI_191, sI_191, gR_189_3, aI_192, gR_189_10, aI_193, sI_193, gR_189_11, aI_194, sI_194, gR_189_13, aI_195, sI_195, gR_189_15, aI_196, sI_196, gR_189_17, aI_197, sI_197, gR_189_18, aI_198, sI_198, gR_189_19, aI_199, sI_199, gR_189_20, aI_200, sI_200, gR_189_23, aI_201, gR_189_24, aI_202, sI_202, gR_189_25, aI_203, sI_203, gR_189_29, aI_204, sI_204, gR_189_32, aI_205, sI_205, gR_189_35, aI_206, sI_206, pZ_189, gL_189, pL_189, z0, h1, x0]
      refine WI_i (fun h => ?_) (fun hh => ?_)
      · simp (disch := first | assumption | omega) only [↓b_hid, bH_some, ↓hid_W, ↓W_ite, WI_t, WI_f, W_some, I3_a, I3_s, I3_m, I3_n, I3_l, I3_lt, I3_le, I3_e, I3_dv, I3_rm, I3_mx, I3_mn, I3_ab, cI, bI_0, bI_1, rZ_b, up_same, up_row, up_col, xr_some, LQ_r, LQ_l, Int.sub_self, Int.add_zero, Int.zero_add, Int.sub_zero, Int.neg_neg, not_true_eq_false, not_false_eq_true, Int.add_sub_cancel]; exact no (by rintro ⟨_, _, hx, _⟩; rw [e0] at hx; exact h hx)
      simp (disch := first | assumption | omega) only [↓b_hid, bH_some, ↓hid_W, ↓W_ite, WI_t, WI_f, W_some, I3_a, I3_s, I3_m, I3_n, I3_l, I3_lt, I3_le, I3_e, I3_dv, I3_rm, I3_mx, I3_mn, I3_ab, cI, bI_0, bI_1, rZ_b, up_same, up_row, up_col, xr_some, LQ_r, LQ_l, Int.sub_self, Int.add_zero, Int.zero_add, Int.sub_zero, Int.neg_neg, not_true_eq_false, not_false_eq_true, Int.add_sub_cancel, gI_189, pI_189, iO_189, gR_189_0, aI_190, sI_190, gR_189_1, aI_191, sI_191, gR_189_3, aI_192, gR_189_10, aI_193, sI_193, gR_189_11, aI_194, sI_194, gR_189_13, aI_195, sI_195, gR_189_15, aI_196, sI_196, gR_189_17, aI_197, sI_197, gR_189_18, aI_198, sI_198, gR_189_19, aI_199, sI_199, gR_189_20, aI_200, sI_200, gR_189_23, aI_201, gR_189_24, aI_202, sI_202, gR_189_25, aI_203, sI_203, gR_189_29, aI_204, sI_204, gR_189_32, aI_205, sI_205, gR_189_35, aI_206, sI_206, pZ_189, gL_189, pL_189, z1, h2, x1]
      refine WI_i (fun h => ?_) (fun hss => ?_)
      · simp (disch := first | assumption | omega) only [↓b_hid, bH_some, ↓hid_W, ↓W_ite, WI_t, WI_f, W_some, I3_a, I3_s, I3_m, I3_n, I3_l, I3_lt, I3_le, I3_e, I3_dv, I3_rm, I3_mx, I3_mn, I3_ab, cI, bI_0, bI_1, rZ_b, up_same, up_row, up_col, xr_some, LQ_r, LQ_l, Int.sub_self, Int.add_zero, Int.zero_add, Int.sub_zero, Int.neg_neg, not_true_eq_false, not_false_eq_true, Int.add_sub_cancel]; exact no (by rintro ⟨_, _, _, hx, _⟩; rw [e1] at hx; exact h hx)
      simp (disch := first | assumption | omega) only [↓b_hid, bH_some, ↓hid_W, ↓W_ite, WI_t, WI_f, W_some, I3_a, I3_s, I3_m, I3_n, I3_l, I3_lt, I3_le, I3_e, I3_dv, I3_rm, I3_mx, I3_mn, I3_ab, cI, bI_0, bI_1, rZ_b, up_same, up_row, up_col, xr_some, LQ_r, LQ_l, Int.sub_self, Int.add_zero, Int.zero_add, Int.sub_zero, Int.neg_neg, not_true_eq_false, not_false_eq_true, Int.add_sub_cancel, gI_189, pI_189, iO_189, gR_189_0, aI_190, sI_190, gR_189_1, aI_191, sI_191, gR_189_3, aI_192, gR_189_10, aI_193, sI_193, gR_189_11, aI_194, sI_194, gR_189_13, aI_195, sI_195, gR_189_15, aI_196, sI_196, gR_189_17, aI_197, sI_197, gR_189_18, aI_198, sI_198, gR_189_19, aI_199, sI_199, gR_189_20, aI_200, sI_200, gR_189_23, aI_201, gR_189_24, aI_202, sI_202, gR_189_25, aI_203, sI_203, gR_189_29, aI_204, sI_204, gR_189_32, aI_205, sI_205, gR_189_35, aI_206, sI_206, pZ_189, gL_189, pL_189, z2, h3, x2]
      refine WI_i (fun h => ?_) (fun haa => ?_)
      · simp (disch := first | assumption | omega) only [↓b_hid, bH_some, ↓hid_W, ↓W_ite, WI_t, WI_f, W_some, I3_a, I3_s, I3_m, I3_n, I3_l, I3_lt, I3_le, I3_e, I3_dv, I3_rm, I3_mx, I3_mn, I3_ab, cI, bI_0, bI_1, rZ_b, up_same, up_row, up_col, xr_some, LQ_r, LQ_l, Int.sub_self, Int.add_zero, Int.zero_add, Int.sub_zero, Int.neg_neg, not_true_eq_false, not_false_eq_true, Int.add_sub_cancel]; exact no (by rintro ⟨_, _, _, _, hx⟩; rw [e2] at hx; exact h hx)
      · simp (disch := first | assumption | omega) only [↓b_hid, bH_some, ↓hid_W, ↓W_ite, WI_t, WI_f, W_some, I3_a, I3_s, I3_m, I3_n, I3_l, I3_lt, I3_le, I3_e, I3_dv, I3_rm, I3_mx, I3_mn, I3_ab, cI, bI_0, bI_1, rZ_b, up_same, up_row, up_col, xr_some, LQ_r, LQ_l, Int.sub_self, Int.add_zero, Int.zero_add, Int.sub_zero, Int.neg_neg, not_true_eq_false, not_false_eq_true, Int.add_sub_cancel]
        refine ⟨1, rfl, Or.inl ⟨rfl, hr, hmm, ?_, ?_, ?_⟩⟩
        · rw [e0]; exact Classical.byContradiction hh
        · rw [e1]; exact Classical.byContradiction hss
        · rw [e2]; exact Classical.byContradiction haa
    · simp (disch := first | assumption | omega) only [↓b_hid, bH_some, ↓hid_W, ↓W_ite, WI_t, WI_f, W_some, I3_a, I3_s, I3_m, I3_n, I3_l, I3_lt, I3_le, I3_e, I3_dv, I3_rm, I3_mx, I3_mn, I3_ab, cI, bI_0, bI_1, rZ_b, up_same, up_row, up_col, xr_some, LQ_r, LQ_l, Int.sub_self, Int.add_zero, Int.zero_add, Int.sub_zero, Int.neg_neg, not_true_eq_false, not_false_eq_true, Int.add_sub_cancel]; exact no (fun h => hmm h.2.1)
  · simp (disch := first | assumption | omega) only [↓b_hid, bH_some, ↓hid_W, ↓W_ite, WI_t, WI_f, W_some, I3_a, I3_s, I3_m, I3_n, I3_l, I3_lt, I3_le, I3_e, I3_dv, I3_rm, I3_mx, I3_mn, I3_ab, cI, bI_0, bI_1, rZ_b, up_same, up_row, up_col, xr_some, LQ_r, LQ_l, Int.sub_self, Int.add_zero, Int.zero_add, Int.sub_zero, Int.neg_neg, not_true_eq_false, not_false_eq_true, Int.add_sub_cancel]; exact no (fun h => hr h.1)
/-- the model's protocols -/
def MF (z : Nat → Int → Int) (n : Nat) (F : Nat → Int → Int) : Prop := z 190 3 = n ∧ n ≤ 6 ∧ ∀ q, q < n → Rw z q (F q) ∧ PV (F q)
theorem MF_congr {z z' : Nat → Int → Int} {n : Nat} {F : Nat → Int → Int} (h : z' 190 = z 190) (hM : MF z n F) : MF z' n F := by
  obtain ⟨a, b, c⟩ := hM
  exact ⟨by rw [h]; exact a, b, fun q hq => ⟨Rw_congr h (c q hq).1, (c q hq).2⟩⟩
def FrD (z z' : Nat → Int → Int) : Prop := (∀ k, k ≠ 189 → k ≠ 201 → k ≠ 202 → k ≠ 203 → z' k = z k) ∧ ∀ j, j ≠ 26 → j ≠ 27 → j ≠ 28 → z' 189 j = z 189 j
theorem FrD_S {z z' z'' : Nat → Int → Int} (h : FrD z z') (h' : FrS z' z'') : FrD z z'' := ⟨fun k a b c d => (h' k b c d).trans (h.1 k a b c d), fun j a b c => by rw [h' 189 (by decide) (by decide) (by decide)]; exact h.2 j a b c⟩
theorem Ed_D {z z' : Nat → Int → Int} {n tol : Int} {d : Int → Int} (h : FrD z z') (hE : Ed z n d tol) : Ed z' n d tol := by
  obtain ⟨⟨a, b⟩, c1, c2, c3⟩ := hE
  refine ⟨⟨?_, ?_⟩, c1, ?_, c3⟩
  · rw [h.2 14 (by decide) (by decide) (by decide)]; exact a
  · rw [h.1 195 (by decide) (by decide) (by decide) (by decide)]; exact b
  · rw [h.2 22 (by decide) (by decide) (by decide)]; exact c2
theorem m_decodes {i nP : Nat} {n gap tol : Int} {d : Int → Int} {F : Nat → Int → Int} (hM : MF z nP F) (hL : FLm z (FS d n gap)) (h0 : 0 ≤ n) (h1 : n ≤ 200) (hi : i < (FS d n gap).length) (hE : Ed z n d tol) : WP (f_X12_decodes 189 (I3 i) (M p z l)) (fun r => ∃ v z', r = (I3 v, M p z' l) ∧ FrD z z' ∧ ((v = 0 ∧ (dec F nP (fun k => d ((gl (FS d n gap) i).1 + k)) (gl (FS d n gap) i).2 tol).1 = -9 ∧ z' 189 28 = 0) ∨ (v = 1 ∧ (dec F nP (fun k => d ((gl (FS d n gap) i).1 + k)) (gl (FS d n gap) i).2 tol).1 ≠ -9 ∧ z' 189 26 = (dec F nP (fun k => d ((gl (FS d n gap) i).1 + k)) (gl (FS d n gap) i).2 tol).1 ∧ z' 189 27 = (dec F nP (fun k => d ((gl (FS d n gap) i).1 + k)) (gl (FS d n gap) i).2 tol).2 ∧ z' 189 28 = if (dec F nP (fun k => d ((gl (FS d n gap) i).1 + k)) (gl (FS d n gap) i).2 tol).2 = -9 then 1 else 0))) := by
  obtain ⟨g1, g2, g3, g4, g5⟩ := FS_g h0 hi
  have hlen := FS_len (d := d) (gap := gap) h0 h1
  obtain ⟨l1, l2⟩ := hL
  obtain ⟨l3, l4⟩ := l2 i hi
  generalize hme : (fun k => d ((gl (FS d n gap) i).1 + k)) = e
  generalize hmm : (gl (FS d n gap) i).2 = m at *
  generalize hss : (gl (FS d n gap) i).1 = s at *
  have he : ∀ k, e k = d (s + k) := by intro k; rw [← hme]
  have hnP := hM.2.1
  have h6 : ∀ j, j < nP → 1 ≤ F j 6 ∧ F j 6 ≤ 16 := fun q hq => (hM.2.2 q hq).2.2.2.2.2.2.1
  have hi100 : (i : Int) < 200 := by omega
  unfold f_X12_decodes
  simp (disch := first | assumption | omega) only [↓b_hid, bH_some, ↓hid_W, ↓W_ite, WI_t, WI_f, W_some, I3_a, I3_s, I3_m, I3_n, I3_l, I3_lt, I3_le, I3_e, I3_dv, I3_rm, I3_mx, I3_mn, I3_ab, cI, bI_0, bI_1, rZ_b, up_same, up_row, up_col, xr_some, LQ_r, LQ_l, Int.sub_self, Int.add_zero, Int.zero_add, Int.sub_zero, Int.neg_neg, not_true_eq_false, not_false_eq_true, Int.add_sub_cancel, gI_189, pI_189, iO_189, gR_189_0, aI_190, sI_190, gR_189_1, aI_191, sI_191, gR_189_3, aI_192, gR_189_10, aI_193, sI_193, gR_189_11, aI_194, sI_194, gR_189_13, aI_195, sI_195, gR_189_15, aI_196, sI_196, gR_189_17, aI_197, sI_197, gR_189_18, aI_198, sI_198, gR_189_19, aI_199, sI_199, gR_189_20, aI_200, sI_200, gR_189_23, aI_201, gR_189_24, aI_202, sI_202, gR_189_25, aI_203, sI_203, gR_189_29, aI_204, sI_204, gR_189_32, aI_205, sI_205, gR_189_35, aI_206, sI_206, pZ_189, gL_189, pL_189]
  have hF0 : FrD z (up z 189 28 0) := ⟨fun k a _ _ _ => up_row a _ _ _, fun j _ _ c => up_col c _ _ _ _⟩
  unfold f_X12_decodes_7
  refine lp_W (fun k st => ∃ (q : Nat) (z' : Nat → Int → Int), st = (189, I3 i, I3 q, M p z' l) ∧ q + k = nP ∧ dec1 F e m tol nP 0 = dec1 F e m tol k q ∧ z' 189 28 = 0 ∧ FrD z z') (fun k st hst => ?_) ⟨0, _, rfl, by omega, rfl, by rw [up_same], hF0⟩
  obtain ⟨q, z', rfl, hqk, hd1, a28, hF⟩ := hst
  have e190 : z' 190 = z 190 := hF.1 190 (by decide) (by decide) (by decide) (by decide)
  have e199 : z' 199 = z 199 := hF.1 199 (by decide) (by decide) (by decide) (by decide)
  have e200 : z' 200 = z 200 := hF.1 200 (by decide) (by decide) (by decide) (by decide)
  have hM' := MF_congr e190 hM
  have hE' := Ed_D hF hE
  have hn3 : z' 190 3 = nP := hM'.1
  have e199i : z' 199 i = s := by rw [e199]; exact l3
  have e200i : z' 200 i = m := by rw [e200]; exact l4
  unfold f_X12_decodes_7_b
  by_cases hq : q < nP
  · obtain ⟨k, rfl⟩ : ∃ k', k = k' + 1 := ⟨k - 1, by omega⟩
    obtain ⟨hR, hP⟩ := hM'.2.2 q hq
    have hx := xcode_r e m tol (h6 q hq)
    have hd1 : dec1 F e m tol nP 0 = if xcode (F q) e m tol = -9 then dec1 F e m tol k (q + 1) else ((q : Int), xcode (F q) e m tol) := hd1
    simp (disch := first | assumption | omega) only [↓b_hid, bH_some, ↓hid_W, ↓W_ite, WI_t, WI_f, W_some, I3_a, I3_s, I3_m, I3_n, I3_l, I3_lt, I3_le, I3_e, I3_dv, I3_rm, I3_mx, I3_mn, I3_ab, cI, bI_0, bI_1, rZ_b, up_same, up_row, up_col, xr_some, LQ_r, LQ_l, Int.sub_self, Int.add_zero, Int.zero_add, Int.sub_zero, Int.neg_neg, not_true_eq_false, not_false_eq_true, Int.add_sub_cancel, gI_189, pI_189, iO_189, gR_189_0, aI_190, sI_190, gR_189_1, aI_191, sI_191, gR_189_3, aI_192, gR_189_10, aI_193, sI_193, gR_189_11, aI_194, sI_194, gR_189_13, aI_195, sI_195, gR_189_15, aI_196, sI_196, gR_189_17, aI_197, sI_197, gR_189_18, aI_198, sI_198, gR_189_19, aI_199, sI_199, gR_189_20, aI_200, sI_200, gR_189_23, aI_201, gR_189_24, aI_202, sI_202, gR_189_25, aI_203, sI_203, gR_189_29, aI_204, sI_204, gR_189_32, aI_205, sI_205, gR_189_35, aI_206, sI_206, pZ_189, gL_189, pL_189, hn3, e199i, e200i, WI_pos, WI_neg]
    refine W_bH (W_imp (m_codeOf (by omega) (by omega) hR hP hE' he g1 g5 g3 g4) ?_)
    rintro _ ⟨v, z2, rfl, b1, b2⟩
    have hF2 := FrD_S hF b1
    have hv : v < 2000000 ∧ -1 ≤ v := by unfold xres at b2; omega
    simp (disch := first | assumption | omega) only [↓b_hid, bH_some, ↓hid_W, ↓W_ite, WI_t, WI_f, W_some, I3_a, I3_s, I3_m, I3_n, I3_l, I3_lt, I3_le, I3_e, I3_dv, I3_rm, I3_mx, I3_mn, I3_ab, cI, bI_0, bI_1, rZ_b, up_same, up_row, up_col, xr_some, LQ_r, LQ_l, Int.sub_self, Int.add_zero, Int.zero_add, Int.sub_zero, Int.neg_neg, not_true_eq_false, not_false_eq_true, Int.add_sub_cancel]
    refine WI_i (fun hv0 => ?_) (fun hv0 => ?_)
    · have hx9 : xcode (F q) e m tol = -9 := by unfold xres at b2; omega
      rw [if_pos hx9] at hd1
      simp (disch := first | assumption | omega) only [↓b_hid, bH_some, ↓hid_W, ↓W_ite, WI_t, WI_f, W_some, I3_a, I3_s, I3_m, I3_n, I3_l, I3_lt, I3_le, I3_e, I3_dv, I3_rm, I3_mx, I3_mn, I3_ab, cI, bI_0, bI_1, rZ_b, up_same, up_row, up_col, xr_some, LQ_r, LQ_l, Int.sub_self, Int.add_zero, Int.zero_add, Int.sub_zero, Int.neg_neg, not_true_eq_false, not_false_eq_true, Int.add_sub_cancel]
      exact ⟨k, by omega, q + 1, z2, by rw [Int.natCast_add]; rfl, by omega, hd1, by rw [b1 189 (by decide) (by decide) (by decide)]; exact a28, hF2⟩
    · have hx9 : xcode (F q) e m tol ≠ -9 ∧ v = xcode (F q) e m tol ∧ 0 ≤ xcode (F q) e m tol := by unfold xres at b2; omega
      rw [if_neg hx9.1] at hd1
      have hdec : dec F nP e m tol = ((q : Int), xcode (F q) e m tol) := by
        unfold dec; rw [hd1, if_neg (by simp only; omega)]
      simp (disch := first | assumption | omega) only [↓b_hid, bH_some, ↓hid_W, ↓W_ite, WI_t, WI_f, W_some, I3_a, I3_s, I3_m, I3_n, I3_l, I3_lt, I3_le, I3_e, I3_dv, I3_rm, I3_mx, I3_mn, I3_ab, cI, bI_0, bI_1, rZ_b, up_same, up_row, up_col, xr_some, LQ_r, LQ_l, Int.sub_self, Int.add_zero, Int.zero_add, Int.sub_zero, Int.neg_neg, not_true_eq_false, not_false_eq_true, Int.add_sub_cancel, gI_189, pI_189, iO_189, gR_189_0, aI_190, sI_190, gR_189_1, aI_191, sI_191, gR_189_3, aI_192, gR_189_10, aI_193, sI_193, gR_189_11, aI_194, sI_194, gR_189_13, aI_195, sI_195, gR_189_15, aI_196, sI_196, gR_189_17, aI_197, sI_197, gR_189_18, aI_198, sI_198, gR_189_19, aI_199, sI_199, gR_189_20, aI_200, sI_200, gR_189_23, aI_201, gR_189_24, aI_202, sI_202, gR_189_25, aI_203, sI_203, gR_189_29, aI_204, sI_204, gR_189_32, aI_205, sI_205, gR_189_35, aI_206, sI_206, pZ_189, gL_189, pL_189, f_X12_decodes_39]
      refine ⟨1, _, rfl, ⟨fun c a b d g => by rw [up_row a, up_row a]; exact hF2.1 c a b d g, fun j a b c => by rw [up_col b, up_col a]; exact hF2.2 j a b c⟩, Or.inr ⟨rfl, ?_, ?_, ?_, ?_⟩⟩
      · rw [hdec]; simp only; omega
      · rw [hdec, up_col (by decide), up_same]
      · rw [hdec, up_same]; exact hx9.2.1
      · rw [hdec]
        simp only
        rw [if_neg hx9.1, up_col (by decide), up_col (by decide), b1 189 (by decide) (by decide) (by decide)]; exact a28
  · have : k = 0 := by omega
    subst this
    have hd0 : dec1 F e m tol nP 0 = (-9, -9) := hd1
    have hdec : dec F nP e m tol = (dec2 F e m tol nP 0, -9) := by unfold dec; rw [hd0, if_pos rfl]
    simp (disch := first | assumption | omega) only [↓b_hid, bH_some, ↓hid_W, ↓W_ite, WI_t, WI_f, W_some, I3_a, I3_s, I3_m, I3_n, I3_l, I3_lt, I3_le, I3_e, I3_dv, I3_rm, I3_mx, I3_mn, I3_ab, cI, bI_0, bI_1, rZ_b, up_same, up_row, up_col, xr_some, LQ_r, LQ_l, Int.sub_self, Int.add_zero, Int.zero_add, Int.sub_zero, Int.neg_neg, not_true_eq_false, not_false_eq_true, Int.add_sub_cancel, gI_189, pI_189, iO_189, gR_189_0, aI_190, sI_190, gR_189_1, aI_191, sI_191, gR_189_3, aI_192, gR_189_10, aI_193, sI_193, gR_189_11, aI_194, sI_194, gR_189_13, aI_195, sI_195, gR_189_15, aI_196, sI_196, gR_189_17, aI_197, sI_197, gR_189_18, aI_198, sI_198, gR_189_19, aI_199, sI_199, gR_189_20, aI_200, sI_200, gR_189_23, aI_201, gR_189_24, aI_202, sI_202, gR_189_25, aI_203, sI_203, gR_189_29, aI_204, sI_204, gR_189_32, aI_205, sI_205, gR_189_35, aI_206, sI_206, pZ_189, gL_189, pL_189, hn3, WI_pos, WI_neg]
    refine W_xr ?_
    unfold f_X12_decodes_57 f_X12_decodes_59
    simp only [LQ_r]
    refine lp_W (fun k st => ∃ q : Nat, st = (189, I3 i, I3 q, M p z' l) ∧ q + k = nP ∧ dec2 F e m tol nP 0 = dec2 F e m tol k q) (fun k st hst => ?_) ⟨0, rfl, by omega, rfl⟩
    obtain ⟨q, rfl, hqk, hd2⟩ := hst
    unfold f_X12_decodes_59_b
    by_cases hq : q < nP
    · obtain ⟨k, rfl⟩ : ∃ k', k = k' + 1 := ⟨k - 1, by omega⟩
      obtain ⟨hR, hP⟩ := hM'.2.2 q hq
      have hd2 : dec2 F e m tol nP 0 = cif (xshort (F q) e m tol) q (dec2 F e m tol k (q + 1)) := hd2
      simp (disch := first | assumption | omega) only [↓b_hid, bH_some, ↓hid_W, ↓W_ite, WI_t, WI_f, W_some, I3_a, I3_s, I3_m, I3_n, I3_l, I3_lt, I3_le, I3_e, I3_dv, I3_rm, I3_mx, I3_mn, I3_ab, cI, bI_0, bI_1, rZ_b, up_same, up_row, up_col, xr_some, LQ_r, LQ_l, Int.sub_self, Int.add_zero, Int.zero_add, Int.sub_zero, Int.neg_neg, not_true_eq_false, not_false_eq_true, Int.add_sub_cancel, gI_189, pI_189, iO_189, gR_189_0, aI_190, sI_190, gR_189_1, aI_191, sI_191, gR_189_3, aI_192, gR_189_10, aI_193, sI_193, gR_189_11, aI_194, sI_194, gR_189_13, aI_195, sI_195, gR_189_15, aI_196, sI_196, gR_189_17, aI_197, sI_197, gR_189_18, aI_198, sI_198, gR_189_19, aI_199, sI_199, gR_189_20, aI_200, sI_200, gR_189_23, aI_201, gR_189_24, aI_202, sI_202, gR_189_25, aI_203, sI_203, gR_189_29, aI_204, sI_204, gR_189_32, aI_205, sI_205, gR_189_35, aI_206, sI_206, pZ_189, gL_189, pL_189, hn3, e199i, e200i, WI_pos, WI_neg]
      refine W_bH (W_imp (m_isShort (by omega) (by omega) hR hP hE' he g1 g5 g3) ?_)
      rintro _ ⟨v, rfl, hv⟩
      rcases hv with ⟨rfl, hv⟩ | ⟨rfl, hv⟩
      · rw [cif_t hv] at hd2
        simp (disch := first | assumption | omega) only [↓b_hid, bH_some, ↓hid_W, ↓W_ite, WI_t, WI_f, W_some, I3_a, I3_s, I3_m, I3_n, I3_l, I3_lt, I3_le, I3_e, I3_dv, I3_rm, I3_mx, I3_mn, I3_ab, cI, bI_0, bI_1, rZ_b, up_same, up_row, up_col, xr_some, LQ_r, LQ_l, Int.sub_self, Int.add_zero, Int.zero_add, Int.sub_zero, Int.neg_neg, not_true_eq_false, not_false_eq_true, Int.add_sub_cancel, gI_189, pI_189, iO_189, gR_189_0, aI_190, sI_190, gR_189_1, aI_191, sI_191, gR_189_3, aI_192, gR_189_10, aI_193, sI_193, gR_189_11, aI_194, sI_194, gR_189_13, aI_195, sI_195, gR_189_15, aI_196, sI_196, gR_189_17, aI_197, sI_197, gR_189_18, aI_198, sI_198, gR_189_19, aI_199, sI_199, gR_189_20, aI_200, sI_200, gR_189_23, aI_201, gR_189_24, aI_202, sI_202, gR_189_25, aI_203, sI_203, gR_189_29, aI_204, sI_204, gR_189_32, aI_205, sI_205, gR_189_35, aI_206, sI_206, pZ_189, gL_189, pL_189, f_X12_decodes_89, WI_pos, WI_neg]
        refine ⟨1, _, rfl, ⟨fun c a b d g => by rw [up_row a, up_row a, up_row a]; exact hF.1 c a b d g, fun j a b c => by rw [up_col c, up_col b, up_col a]; exact hF.2 j a b c⟩, Or.inr ⟨rfl, ?_, ?_, ?_, ?_⟩⟩
        · rw [hdec]; simp only; omega
        · rw [hdec, up_col (by decide), up_col (by decide), up_same]; exact hd2.symm
        · rw [hdec, up_col (by decide), up_same]
        · rw [hdec, up_same]; rfl
      · rw [cif_f hv] at hd2
        simp (disch := first | assumption | omega) only [↓b_hid, bH_some, ↓hid_W, ↓W_ite, WI_t, WI_f, W_some, I3_a, I3_s, I3_m, I3_n, I3_l, I3_lt, I3_le, I3_e, I3_dv, I3_rm, I3_mx, I3_mn, I3_ab, cI, bI_0, bI_1, rZ_b, up_same, up_row, up_col, xr_some, LQ_r, LQ_l, Int.sub_self, Int.add_zero, Int.zero_add, Int.sub_zero, Int.neg_neg, not_true_eq_false, not_false_eq_true, Int.add_sub_cancel, WI_pos, WI_neg]
        exact ⟨k, by omega, q + 1, by rw [Int.natCast_add]; rfl, by omega, hd2⟩
    · have : k = 0 := by omega
      subst this
      simp (disch := first | assumption | omega) only [↓b_hid, bH_some, ↓hid_W, ↓W_ite, WI_t, WI_f, W_some, I3_a, I3_s, I3_m, I3_n, I3_l, I3_lt, I3_le, I3_e, I3_dv, I3_rm, I3_mx, I3_mn, I3_ab, cI, bI_0, bI_1, rZ_b, up_same, up_row, up_col, xr_some, LQ_r, LQ_l, Int.sub_self, Int.add_zero, Int.zero_add, Int.sub_zero, Int.neg_neg, not_true_eq_false, not_false_eq_true, Int.add_sub_cancel, gI_189, pI_189, iO_189, gR_189_0, aI_190, sI_190, gR_189_1, aI_191, sI_191, gR_189_3, aI_192, gR_189_10, aI_193, sI_193, gR_189_11, aI_194, sI_194, gR_189_13, aI_195, sI_195, gR_189_15, aI_196, sI_196, gR_189_17, aI_197, sI_197, gR_189_18, aI_198, sI_198, gR_189_19, aI_199, sI_199, gR_189_20, aI_200, sI_200, gR_189_23, aI_201, gR_189_24, aI_202, sI_202, gR_189_25, aI_203, sI_203, gR_189_29, aI_204, sI_204, gR_189_32, aI_205, sI_205, gR_189_35, aI_206, sI_206, pZ_189, gL_189, pL_189, hn3, f_X12_decodes_113, WI_pos, WI_neg]
      refine ⟨0, z', rfl, hF, Or.inl ⟨rfl, ?_, a28⟩⟩
      rw [hdec]; exact hd2
end
