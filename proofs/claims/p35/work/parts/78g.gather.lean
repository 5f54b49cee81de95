/-! What the class gathers. -/
section
variable {p : Nat → Nat} {z l : Nat → Int → Int}
set_option maxHeartbeats 4000000 in
theorem w_gather {n gap : Int} {d : Int → Int} (hF : Fs z n d gap) (h0 : 0 ≤ n) (h1 : n ≤ 200) (hd : ∀ i, 0 ≤ i → i < n → 1 ≤ d i ∧ d i ≤ 60000) : WP (f_X4_gather 47 35 (M p z l)) (fun r => ∃ v z', r = (I3 v, M p z' l) ∧ (∀ k, k < 47 ∨ 52 ≤ k → z' k = z k) ∧ ((v = 0 ∧ (n = 0 ∨ (gl (FS d n gap) 0).2 < 5)) ∨ (v = 1 ∧ 0 < n ∧ 5 ≤ (gl (FS d n gap) 0).2 ∧ z' 47 2 = (gl (FS d n gap) 0).2 ∧ z' 47 3 = hmean d (FS d n gap) 0 ∧ z' 47 4 = hmean d (FS d n gap) 1 ∧ Cc z' 48 (cmeans (insA d (FS d n gap) 0 (FS d n gap).length)) ∧ Cc z' 50 (cmeans (insA d (FS d n gap) 1 (FS d n gap).length))))) := by
  unfold f_X4_gather
  by_cases hn0 : n = 0
  · have gs := g_sizeOf0 (p := p) (l := l) hF hn0
    simp (disch := first | assumption | omega) only [↓b_hid, bH_some, ↓hid_W, W_some, I3_a, I3_s, I3_m, I3_n, I3_l, I3_lt, I3_le, I3_e, I3_dv, I3_rm, I3_mx, I3_mn, I3_ab, cI, bI_0, bI_1, rZ_b, up_same, up_row, up_col, xr_some, LQ_r, LQ_l, Int.sub_self, Int.add_zero, Int.zero_add, Int.sub_zero, Int.neg_neg, not_true_eq_false, not_false_eq_true, Int.add_sub_cancel, ↓ite_iH, iH_t, iH_f, bH_iH, ↓bH_bind, xr_iH, ↓xr_bind, W_iH, WI_t, WI_f, gI_47, pI_47, iO_47, gR_47_0, gR_47_1, iO_35, gs, iH_pos, iH_neg, WI_pos, WI_neg]
    exact ⟨0, _, rfl, fun k hk => up_row (by omega) _ _ _, Or.inl ⟨rfl, Or.inl hn0⟩⟩
  have hpos := FS_pos (d := d) (gap := gap) (show 0 < n by omega) h1
  have gs := g_sizeOf (p := p) (l := l) (i := 0) hF h0 h1 hpos
  have g0 := FS_g h0 hpos
  unfold fsG at g0
  have hlen := FS_len (d := d) (gap := gap) h0 h1
  rw [show ((0 : Nat) : Int) = 0 from rfl] at gs
  by_cases h5 : (gl (FS d n gap) 0).2 < 5
  · simp (disch := first | assumption | omega) only [↓b_hid, bH_some, ↓hid_W, W_some, I3_a, I3_s, I3_m, I3_n, I3_l, I3_lt, I3_le, I3_e, I3_dv, I3_rm, I3_mx, I3_mn, I3_ab, cI, bI_0, bI_1, rZ_b, up_same, up_row, up_col, xr_some, LQ_r, LQ_l, Int.sub_self, Int.add_zero, Int.zero_add, Int.sub_zero, Int.neg_neg, not_true_eq_false, not_false_eq_true, Int.add_sub_cancel, ↓ite_iH, iH_t, iH_f, bH_iH, ↓bH_bind, xr_iH, ↓xr_bind, W_iH, WI_t, WI_f, gI_47, pI_47, iO_47, gR_47_0, gR_47_1, iO_35, gs, iH_pos, iH_neg, WI_pos, WI_neg]
    exact ⟨0, _, rfl, fun k hk => up_row (by omega) _ _ _, Or.inl ⟨rfl, Or.inr h5⟩⟩
  have h48 : isC 48 := Or.inl rfl
  have h50 : isC 50 := Or.inr rfl
  simp (disch := first | assumption | omega) only [↓b_hid, bH_some, ↓hid_W, W_some, I3_a, I3_s, I3_m, I3_n, I3_l, I3_lt, I3_le, I3_e, I3_dv, I3_rm, I3_mx, I3_mn, I3_ab, cI, bI_0, bI_1, rZ_b, up_same, up_row, up_col, xr_some, LQ_r, LQ_l, Int.sub_self, Int.add_zero, Int.zero_add, Int.sub_zero, Int.neg_neg, not_true_eq_false, not_false_eq_true, Int.add_sub_cancel, ↓ite_iH, iH_t, iH_f, bH_iH, ↓bH_bind, xr_iH, ↓xr_bind, W_iH, WI_t, WI_f, gI_47, pI_47, iO_47, gR_47_0, gR_47_1, iO_35, gs, f_X0_makeEmpty, gR_47_0, gR_47_1, iO_48, iO_50, pI_48, pI_50, iH_pos, iH_neg, WI_pos, WI_neg]
  generalize hL : FS d n gap = L at *
  generalize hm : (gl L 0).2 = m at *
  generalize hz1 : up (up (up z 47 2 m) 48 1 0) 50 1 0 = z1
  have hz1r : ∀ k, k < 47 ∨ 52 ≤ k → z1 k = z k := fun k hk => by rw [← hz1]; simp (disch := omega) only [up_row]
  have hz12 : z1 47 2 = m := by rw [← hz1]; simp (disch := omega) only [up_row, up_same]
  have hrA := fun side i hi => insA_r (d := d) (gap := gap) h0 hd (by rw [hL, hm]; omega) side i hi
  have hrS := fun (q : Int) q0 q1 i hi => hsum_r (d := d) (gap := gap) (pl := q) h0 hd (by rw [hL, hm]; omega) q0 q1 i hi
  rw [hL] at hrA hrS
  unfold f_X4_gather_43
  refine lp_W (fun t st => ∃ (i : Nat) (z' : Nat → Int → Int), st = (47, 35, I3 (hsum d L 0 i).2, I3 (hsum d L 0 i).1, I3 (hsum d L 1 i).1, I3 i, M p z' l) ∧ i ≤ L.length ∧ t = L.length - i ∧ (∀ k, k < 47 ∨ 52 ≤ k → z' k = z k) ∧ z' 47 2 = m ∧ Trx z' 48 (insA d L 0 i) ∧ Trx z' 50 (insA d L 1 i)) (fun t st hst => ?_) ⟨0, z1, rfl, by omega, rfl, hz1r, hz12, ⟨by rw [← hz1]; simp (disch := omega) only [up_row, up_same]; rfl, fun i i0 i1 => by simp [insA] at i1; omega⟩, ⟨by rw [← hz1]; simp (disch := omega) only [up_same]; rfl, fun i i0 i1 => by simp [insA] at i1; omega⟩⟩
  obtain ⟨i, z', rfl, hi, rfl, hC, e2, hX, hY⟩ := hst
  have hF' : Fs z' n d gap := by
    obtain ⟨x1, x2, x3⟩ := hF
    exact ⟨Tr_congr (hC 38 (by decide)) (hC 39 (by decide)) x1, by rw [hC 35 (by decide)]; exact x2, by rw [hC 36 (by decide), hC 37 (by decide)]; exact x3⟩
  have eN : z' 35 2 = L.length := by have := hF'.2.1; rw [hL] at this; exact this
  have s0 := hrS 0 (by omega) (by omega) i hi
  have s1 := hrS 1 (by omega) (by omega) i hi
  have s01 : (hsum d L 1 i).2 = (hsum d L 0 i).2 := by
    have : ∀ i, (hsum d L 1 i).2 = (hsum d L 0 i).2 := by
      intro i
      induction i with
      | zero => rfl
      | succ i ih => rw [hsum, hsum]; split
                     · simp only; rw [ih]
                     · exact ih
    exact this i
  unfold f_X4_gather_43_b
  by_cases hiN : i < L.length
  · have gsi := g_sizeOf (p := p) (l := l) (i := i) hF' h0 h1 (by rw [hL]; exact hiN)
    rw [hL] at gsi
    have gi := FS_g h0 (d := d) (gap := gap) (i := i) (by rw [hL]; exact hiN)
    rw [hL] at gi
    unfold fsG at gi
    by_cases hsz : (gl L i).2 = m
    · have d0 := g_durAt (p := p) (l := l) (i := i) (k := 0) hF' h0 h1 (by rw [hL]; exact hiN) (by omega) (by rw [hL]; omega)
      have d1 := g_durAt (p := p) (l := l) (i := i) (k := 1) hF' h0 h1 (by rw [hL]; exact hiN) (by omega) (by rw [hL]; omega)
      rw [hL] at d0 d1
      have d0 : f_X3_durationAt 35 (I3 i) (I3 0) (M p z' l) = some (I3 (fre d L i 0), M p z' l) := d0
      have d1 : f_X3_durationAt 35 (I3 i) (I3 1) (M p z' l) = some (I3 (fre d L i 1), M p z' l) := d1
      have hsz0 : (gl L i).2 = (gl L 0).2 := by rw [hsz, hm]
      have a0 := hrA 0 i hi
      have a1 := hrA 1 i hi
      simp (disch := first | assumption | omega) only [↓b_hid, bH_some, ↓hid_W, W_some, I3_a, I3_s, I3_m, I3_n, I3_l, I3_lt, I3_le, I3_e, I3_dv, I3_rm, I3_mx, I3_mn, I3_ab, cI, bI_0, bI_1, rZ_b, up_same, up_row, up_col, xr_some, LQ_r, LQ_l, Int.sub_self, Int.add_zero, Int.zero_add, Int.sub_zero, Int.neg_neg, not_true_eq_false, not_false_eq_true, Int.add_sub_cancel, ↓ite_iH, iH_t, iH_f, bH_iH, ↓bH_bind, xr_iH, ↓xr_bind, W_iH, WI_t, WI_f, gI_35, pI_35, iO_35, gR_35_0, aI_36, sI_36, gR_35_1, aI_37, sI_37, gR_35_3, gI_47, pI_47, iO_47, gR_47_0, gR_47_1, e2, eN, gsi, hsz, d0, d1, iH_pos, iH_neg, WI_pos, WI_neg]
      have hins := w_insertAll (p := p) (l := l) (i := i) (x := insA d L 0 i) (y := insA d L 1 i) hF' h0 h1 hd (by rw [hL]; exact hiN) (by rw [hL, hsz]; exact e2) (by rw [hL]; omega) hX hY a0.1 a1.1 (by rw [hL]; exact a0.2.2 hiN) (by rw [hL]; exact a1.2.2 hiN)
      rw [hL] at hins
      refine W_bH (W_imp hins ?_)
      rintro _ ⟨z2, rfl, b1, b2, b3⟩
      unfold f_X4_gather_97
      simp (disch := first | assumption | omega) only [↓b_hid, bH_some, ↓hid_W, W_some, I3_a, I3_s, I3_m, I3_n, I3_l, I3_lt, I3_le, I3_e, I3_dv, I3_rm, I3_mx, I3_mn, I3_ab, cI, bI_0, bI_1, rZ_b, up_same, up_row, up_col, xr_some, LQ_r, LQ_l, Int.sub_self, Int.add_zero, Int.zero_add, Int.sub_zero, Int.neg_neg, not_true_eq_false, not_false_eq_true, Int.add_sub_cancel, ↓ite_iH, iH_t, iH_f, bH_iH, ↓bH_bind, xr_iH, ↓xr_bind, W_iH, WI_t, WI_f]
      have q0 : hsum d L 0 (i + 1) = ((hsum d L 0 i).1 + fre d L i 0, (hsum d L 0 i).2 + 1) := by rw [hsum, if_pos hsz0]
      have q1 : hsum d L 1 (i + 1) = ((hsum d L 1 i).1 + fre d L i 1, (hsum d L 1 i).2 + 1) := by rw [hsum, if_pos hsz0]
      refine ⟨_, ?_, i + 1, z2, by rw [q0, q1, Int.natCast_add]; rfl, by omega, rfl, fun k hk => (b3 k (by omega)).trans (hC k hk), by rw [b3 47 (by decide)]; exact e2, ?_, ?_⟩
      · omega
      · rw [insA, if_pos hsz0, hm, ← hsz]; exact b1
      · rw [insA, if_pos hsz0, hm, ← hsz]; exact b2
    · have hsz0 : ¬(gl L i).2 = (gl L 0).2 := by rw [hm]; exact hsz
      have q0 : hsum d L 0 (i + 1) = hsum d L 0 i := by rw [hsum, if_neg hsz0]
      have q1 : hsum d L 1 (i + 1) = hsum d L 1 i := by rw [hsum, if_neg hsz0]
      simp (disch := first | assumption | omega) only [↓b_hid, bH_some, ↓hid_W, W_some, I3_a, I3_s, I3_m, I3_n, I3_l, I3_lt, I3_le, I3_e, I3_dv, I3_rm, I3_mx, I3_mn, I3_ab, cI, bI_0, bI_1, rZ_b, up_same, up_row, up_col, xr_some, LQ_r, LQ_l, Int.sub_self, Int.add_zero, Int.zero_add, Int.sub_zero, Int.neg_neg, not_true_eq_false, not_false_eq_true, Int.add_sub_cancel, ↓ite_iH, iH_t, iH_f, bH_iH, ↓bH_bind, xr_iH, ↓xr_bind, W_iH, WI_t, WI_f, gI_35, pI_35, iO_35, gR_35_0, aI_36, sI_36, gR_35_1, aI_37, sI_37, gR_35_3, gI_47, pI_47, iO_47, gR_47_0, gR_47_1, e2, eN, gsi, f_X4_gather_97, iH_pos, iH_neg, WI_pos, WI_neg]
      refine ⟨_, ?_, i + 1, z', by rw [q0, q1, Int.natCast_add]; rfl, by omega, rfl, hC, e2, ?_, ?_⟩
      · omega
      · rw [insA, if_neg hsz0]; exact hX
      · rw [insA, if_neg hsz0]; exact hY
  · have hiN' : i = L.length := by omega
    subst hiN'
    have hc1 := s0.2.2.2.2 hpos
    have a0 := hrA 0 L.length (Nat.le_refl _)
    have a1 := hrA 1 L.length (Nat.le_refl _)
    have m0 : (hsum d L 0 L.length).1 / (hsum d L 0 L.length).2 = hmean d L 0 := rfl
    have m1 : (hsum d L 1 L.length).1 / (hsum d L 0 L.length).2 = hmean d L 1 := by unfold hmean; rw [s01]
    simp (disch := first | assumption | omega) only [↓b_hid, bH_some, ↓hid_W, W_some, I3_a, I3_s, I3_m, I3_n, I3_l, I3_lt, I3_le, I3_e, I3_dv, I3_rm, I3_mx, I3_mn, I3_ab, cI, bI_0, bI_1, rZ_b, up_same, up_row, up_col, xr_some, LQ_r, LQ_l, Int.sub_self, Int.add_zero, Int.zero_add, Int.sub_zero, Int.neg_neg, not_true_eq_false, not_false_eq_true, Int.add_sub_cancel, ↓ite_iH, iH_t, iH_f, bH_iH, ↓bH_bind, xr_iH, ↓xr_bind, W_iH, WI_t, WI_f, gI_35, pI_35, iO_35, gR_35_0, aI_36, sI_36, gR_35_1, aI_37, sI_37, gR_35_3, gI_47, pI_47, iO_47, gR_47_0, gR_47_1, eN, f_X4_gather_103, m0, m1, gR_47_0, gR_47_1, iO_48, iO_50, iH_pos, iH_neg, WI_pos, WI_neg]
    refine W_xr ?_
    simp only [LQ_r]
    refine W_bH (W_imp (w_cut h48 (Tr_congr (by simp (disch := omega) only [up_row]) (by simp (disch := omega) only [up_row]) hX) a0.1 (by omega)) ?_)
    rintro _ ⟨z2, rfl, b1, b2⟩
    simp (disch := first | assumption | omega) only [↓b_hid, bH_some, ↓hid_W, W_some, I3_a, I3_s, I3_m, I3_n, I3_l, I3_lt, I3_le, I3_e, I3_dv, I3_rm, I3_mx, I3_mn, I3_ab, cI, bI_0, bI_1, rZ_b, up_same, up_row, up_col, xr_some, LQ_r, LQ_l, Int.sub_self, Int.add_zero, Int.zero_add, Int.sub_zero, Int.neg_neg, not_true_eq_false, not_false_eq_true, Int.add_sub_cancel, ↓ite_iH, iH_t, iH_f, bH_iH, ↓bH_bind, xr_iH, ↓xr_bind, W_iH, WI_t, WI_f, gI_47, pI_47, iO_47, gR_47_0, gR_47_1, gR_47_1, iO_50]
    refine W_bH (W_imp (w_cut h50 (Tr_congr (by rw [b2 50 (by decide)]; simp (disch := omega) only [up_row]) (by rw [b2 51 (by decide)]; simp (disch := omega) only [up_row]) hY) a1.1 (by omega)) ?_)
    rintro _ ⟨z3, rfl, c1, c2⟩
    simp (disch := first | assumption | omega) only [↓b_hid, bH_some, ↓hid_W, W_some, I3_a, I3_s, I3_m, I3_n, I3_l, I3_lt, I3_le, I3_e, I3_dv, I3_rm, I3_mx, I3_mn, I3_ab, cI, bI_0, bI_1, rZ_b, up_same, up_row, up_col, xr_some, LQ_r, LQ_l, Int.sub_self, Int.add_zero, Int.zero_add, Int.sub_zero, Int.neg_neg, not_true_eq_false, not_false_eq_true, Int.add_sub_cancel, ↓ite_iH, iH_t, iH_f, bH_iH, ↓bH_bind, xr_iH, ↓xr_bind, W_iH, WI_t, WI_f]
    refine ⟨1, z3, rfl, fun k hk => ?_, Or.inr ⟨rfl, by omega, by omega, ?_, ?_, ?_, ?_, c1⟩⟩
    · rw [c2 k (by omega), b2 k (by omega), up_row (by omega), up_row (by omega)]; exact hC k hk
    · rw [c2 47 (by decide), b2 47 (by decide), up_col (by decide), up_col (by decide)]; exact e2
    · rw [c2 47 (by decide), b2 47 (by decide), up_col (by decide), up_same]
    · rw [c2 47 (by decide), b2 47 (by decide), up_same]
    · unfold Cc; rw [c2 48 (by decide)]; exact b1
end
