/-! undo(): both sides. -/
set_option maxHeartbeats 4000000 in
theorem j_undo : JT (f_X11_undo 0) (f_X12_undo 189) := by
  intro p z l hJ
  obtain ⟨T, n, hp, hV, hS, hn, h2, hH, hC, hM, hT⟩ := id hJ
  have e3 : z 0 2 = n := hH.1
  unfold f_X11_undo
  by_cases h0 : n = 0
  · subst h0
    unfold f_X12_undo
    simp (disch := first | assumption | omega) only [↓b_hid, bH_some, ↓hid_W, W_some, I3_a, I3_s, I3_m, I3_n, I3_l, I3_lt, I3_le, I3_e, I3_dv, I3_rm, I3_mx, I3_mn, I3_ab, cI, bI_0, bI_1, rZ_b, up_same, up_row, up_col, xr_some, LQ_r, LQ_l, Int.sub_self, Int.add_zero, Int.zero_add, Int.sub_zero, Int.neg_neg, not_true_eq_false, not_false_eq_true, Int.add_sub_cancel, ↓ite_iH, iH_t, iH_f, bH_iH, ↓bH_bind, xr_iH, ↓xr_bind, W_iH, WI_t, WI_f, aR_34, aR_19, sR_19, gR_0_0, pR_0, gI_0, pI_0, iO_0, gR_0_1, gR_0_3, gR_0_4, gR_0_5, gR_0_6, gR_0_7, gR_0_8, gR_0_9, gR_0_10, gR_0_11, gI_189, pI_189, iO_189, gR_189_0, aI_190, sI_190, gR_189_1, aI_191, sI_191, gR_189_3, aI_192, gR_189_10, aI_193, sI_193, gR_189_11, aI_194, sI_194, gR_189_13, aI_195, sI_195, gR_189_15, aI_196, sI_196, gR_189_17, aI_197, sI_197, gR_189_18, aI_198, sI_198, gR_189_19, aI_199, sI_199, gR_189_20, aI_200, sI_200, gR_189_23, aI_201, gR_189_24, aI_202, sI_202, gR_189_25, aI_203, sI_203, gR_189_29, aI_204, sI_204, gR_189_32, aI_205, sI_205, gR_189_35, aI_206, sI_206, pZ_189, gL_189, pL_189, gI_0, e3, h2, iH_pos, iH_neg, WI_pos, WI_neg]
    exact ⟨⟨_, _, _, rfl⟩, trivial, p, z, l, rfl, hJ⟩
  have hn1 : ((n - 1).toNat : Int) = n - 1 := by omega
  have hi : (n - 1).toNat + 1 = n.toNat := by omega
  have hbn := hp.1 n.toNat (by omega)
  have hb0 := hp.1 0 (by omega)
  obtain ⟨hVn, hSn⟩ := hH.2 (n - 1).toNat (by omega)
  rw [hn1, hi] at hSn
  rw [hn1] at hVn
  have u0 : upP p 0 (p n.toNat) 0 = p n.toNat := upP_same _ _ _
  simp (disch := first | assumption | omega) only [↓b_hid, bH_some, ↓hid_W, W_some, I3_a, I3_s, I3_m, I3_n, I3_l, I3_lt, I3_le, I3_e, I3_dv, I3_rm, I3_mx, I3_mn, I3_ab, cI, bI_0, bI_1, rZ_b, up_same, up_row, up_col, xr_some, LQ_r, LQ_l, Int.sub_self, Int.add_zero, Int.zero_add, Int.sub_zero, Int.neg_neg, not_true_eq_false, not_false_eq_true, Int.add_sub_cancel, ↓ite_iH, iH_t, iH_f, bH_iH, ↓bH_bind, xr_iH, ↓xr_bind, W_iH, WI_t, WI_f, aR_34, aR_19, sR_19, gR_0_0, pR_0, gI_0, pI_0, iO_0, gR_0_1, gR_0_3, gR_0_4, gR_0_5, gR_0_6, gR_0_7, gR_0_8, gR_0_9, gR_0_10, gR_0_11, gI_0, pI_0, e3, gR_0_1, hi, sR_19 hb0, pR_0, iH_pos, iH_neg, WI_pos, WI_neg]
  refine ⟨⟨_, _, _, rfl⟩, ?_⟩
  generalize hz1 : up z 0 2 (n - 1) = z1
  generalize hp1 : upP (upP p 0 (p n.toNat)) n.toNat (p 0) = p1
  have q : ∀ j, j < 7 → p1 j = if j = n.toNat then p 0 else if j = 0 then p n.toNat else p j := by
    intro j hj
    rw [← hp1]
    by_cases h1 : j = n.toNat
    · rw [if_pos h1, h1, upP_same]
    · rw [if_neg h1, upP_ne h1]
      by_cases h3 : j = 0
      · rw [if_pos h3, h3, upP_same]
      · rw [if_neg h3, upP_ne h3]
  have hPB : PB p1 := by
    refine ⟨fun j hj => ?_, fun i j hi hj hij => ?_⟩
    · rw [q j hj]; split
      · exact hb0
      · split
        · exact hbn
        · exact hp.1 j hj
    · rw [q i hi, q j hj]
      have H := hp.2
      split
      · split
        · omega
        · split
          · exact H _ _ (by omega) (by omega) (by omega)
          · exact H _ _ (by omega) (by omega) (by omega)
      · split
        · split
          · exact H _ _ (by omega) (by omega) (by omega)
          · split
            · omega
            · exact H _ _ (by omega) (by omega) (by omega)
        · split
          · exact H _ _ (by omega) (by omega) (by omega)
          · split
            · exact H _ _ (by omega) (by omega) (by omega)
            · exact H _ _ (by omega) (by omega) hij
  have r1 : ∀ k, k ≠ 0 → z1 k = z k := fun k hk => by rw [← hz1, up_row hk]
  have x2 : z1 189 2 = n := by rw [r1 189 (by decide)]; exact h2
  have x3 : z1 0 2 = n - 1 := by rw [← hz1, up_same]
  unfold f_X12_undo
  simp (disch := first | assumption | omega) only [↓b_hid, bH_some, ↓hid_W, W_some, I3_a, I3_s, I3_m, I3_n, I3_l, I3_lt, I3_le, I3_e, I3_dv, I3_rm, I3_mx, I3_mn, I3_ab, cI, bI_0, bI_1, rZ_b, up_same, up_row, up_col, xr_some, LQ_r, LQ_l, Int.sub_self, Int.add_zero, Int.zero_add, Int.sub_zero, Int.neg_neg, not_true_eq_false, not_false_eq_true, Int.add_sub_cancel, ↓ite_iH, iH_t, iH_f, bH_iH, ↓bH_bind, xr_iH, ↓xr_bind, W_iH, WI_t, WI_f, gI_189, pI_189, iO_189, gR_189_0, aI_190, sI_190, gR_189_1, aI_191, sI_191, gR_189_3, aI_192, gR_189_10, aI_193, sI_193, gR_189_11, aI_194, sI_194, gR_189_13, aI_195, sI_195, gR_189_15, aI_196, sI_196, gR_189_17, aI_197, sI_197, gR_189_18, aI_198, sI_198, gR_189_19, aI_199, sI_199, gR_189_20, aI_200, sI_200, gR_189_23, aI_201, gR_189_24, aI_202, sI_202, gR_189_25, aI_203, sI_203, gR_189_29, aI_204, sI_204, gR_189_32, aI_205, sI_205, gR_189_35, aI_206, sI_206, pZ_189, gL_189, pL_189, x2, iH_pos, iH_neg, WI_pos, WI_neg]
  generalize hz2 : up z1 189 2 (n - 1) = z2
  have f2 : z2 189 2 = n - 1 := by rw [← hz2, up_same]
  have fj : ∀ j, j ≠ 2 → z2 189 j = z 189 j := fun j hj => by rw [← hz2, up_col hj, r1 189 (by decide)]
  have fr : ∀ k, k ≠ 0 → k ≠ 189 → z2 k = z k := fun k k0 k1 => by rw [← hz2, up_row k1, r1 k k0]
  have f0 : z2 0 2 = n - 1 := by rw [← hz2, up_row (by decide)]; exact x3
  unfold f_X12_undo_22
  refine lp_W (fun m st => ∃ (k : Nat) (z' : Nat → Int → Int), st = (189, I3 k, M p1 z' l) ∧ k ≤ 686 ∧ m = 686 - k ∧ (∀ c, c ≠ 190 → z' c = z2 c) ∧ ∀ i, 0 ≤ i → i < (k : Int) → z' 190 i = z 191 (686 * (n - 1) + i)) (fun m st hst => ?_) ⟨0, z2, rfl, by omega, rfl, fun _ _ => rfl, fun i i0 i1 => by omega⟩
  obtain ⟨k, z', rfl, hk, rfl, hF, hI⟩ := hst
  have g2 : z' 189 2 = n - 1 := by rw [hF 189 (by decide)]; exact f2
  unfold f_X12_undo_22_b
  by_cases hk6 : k < 686
  · have er : z' 191 (686 * (n - 1) + k) = z 191 (686 * (n - 1) + k) := by rw [hF 191 (by decide), fr 191 (by decide) (by decide)]
    simp (disch := first | assumption | omega) only [↓b_hid, bH_some, ↓hid_W, W_some, I3_a, I3_s, I3_m, I3_n, I3_l, I3_lt, I3_le, I3_e, I3_dv, I3_rm, I3_mx, I3_mn, I3_ab, cI, bI_0, bI_1, rZ_b, up_same, up_row, up_col, xr_some, LQ_r, LQ_l, Int.sub_self, Int.add_zero, Int.zero_add, Int.sub_zero, Int.neg_neg, not_true_eq_false, not_false_eq_true, Int.add_sub_cancel, ↓ite_iH, iH_t, iH_f, bH_iH, ↓bH_bind, xr_iH, ↓xr_bind, W_iH, WI_t, WI_f, gI_189, pI_189, iO_189, gR_189_0, aI_190, sI_190, gR_189_1, aI_191, sI_191, gR_189_3, aI_192, gR_189_10, aI_193, sI_193, gR_189_11, aI_194, sI_194, gR_189_13, aI_195, sI_195, gR_189_15, aI_196, sI_196, gR_189_17, aI_197, sI_197, gR_189_18, aI_198, sI_198, gR_189_19, aI_199, sI_199, gR_189_20, aI_200, sI_200, gR_189_23, aI_201, gR_189_24, aI_202, sI_202, gR_189_25, aI_203, sI_203, gR_189_29, aI_204, sI_204, gR_189_32, aI_205, sI_205, gR_189_35, aI_206, sI_206, pZ_189, gL_189, pL_189, g2, er, iH_pos, iH_neg, WI_pos, WI_neg]
    refine ⟨_, ?_, k + 1, _, by rw [Int.natCast_add]; rfl, by omega, rfl, fun c hc => by rw [up_row hc]; exact hF c hc, fun i i0 i1 => ?_⟩
    · omega
    · by_cases hi : i = k
      · rw [hi, up_same]
      · rw [up_col hi]; exact hI i i0 (by omega)
  · have : k = 686 := by omega
    subst this
    simp (disch := first | assumption | omega) only [↓b_hid, bH_some, ↓hid_W, W_some, I3_a, I3_s, I3_m, I3_n, I3_l, I3_lt, I3_le, I3_e, I3_dv, I3_rm, I3_mx, I3_mn, I3_ab, cI, bI_0, bI_1, rZ_b, up_same, up_row, up_col, xr_some, LQ_r, LQ_l, Int.sub_self, Int.add_zero, Int.zero_add, Int.sub_zero, Int.neg_neg, not_true_eq_false, not_false_eq_true, Int.add_sub_cancel, ↓ite_iH, iH_t, iH_f, bH_iH, ↓bH_bind, xr_iH, ↓xr_bind, W_iH, WI_t, WI_f, gI_189, pI_189, iO_189, gR_189_0, aI_190, sI_190, gR_189_1, aI_191, sI_191, gR_189_3, aI_192, gR_189_10, aI_193, sI_193, gR_189_11, aI_194, sI_194, gR_189_13, aI_195, sI_195, gR_189_15, aI_196, sI_196, gR_189_17, aI_197, sI_197, gR_189_18, aI_198, sI_198, gR_189_19, aI_199, sI_199, gR_189_20, aI_200, sI_200, gR_189_23, aI_201, gR_189_24, aI_202, sI_202, gR_189_25, aI_203, sI_203, gR_189_29, aI_204, sI_204, gR_189_32, aI_205, sI_205, gR_189_35, aI_206, sI_206, pZ_189, gL_189, pL_189, f_X12_undo_56, g2, iH_pos, iH_neg, WI_pos, WI_neg]
    have hR : ∀ c, c ≠ 0 → c ≠ 189 → c ≠ 190 → z' c = z c := fun c c0 c1 c2 => (hF c c2).trans (fr c c0 c1)
    have e190 : ∀ i : Int, 0 ≤ i → i < 686 → pst6 z (n - 1) i = z' 190 i := fun i i0 i1 => (hI i i0 i1).symm
    have ep : pst6 z' = pst6 z := by unfold pst6; rw [hR 191 (by decide) (by decide) (by decide)]
    have hfr : ∀ (b c : Nat), isB b → b ≤ c → c < b + 18 → z' c = z c := fun b c hb c0 c1 => by
      have := isB_f hb c0 c1
      exact hR c (by omega) (by omega) (by omega)
    refine ⟨trivial, p1, z', l, rfl, T, n - 1, hPB, V_c e190 hVn, ?_, by omega, g2, ⟨?_, fun j hj => ?_⟩, ⟨?_, ?_⟩, ⟨?_, ?_⟩, hT⟩
    · have : p1 0 = p n.toNat := by rw [q 0 (by omega), if_neg (by omega), if_pos rfl]
      rw [this]
      exact St_c e190 hVn (St_congr hVn (fun c c0 c1 => hfr _ c hbn c0 c1) hSn)
    · rw [hF 0 (by decide)]; exact f0
    · have : p1 (j + 1) = p (j + 1) := by rw [q (j + 1) (by omega), if_neg (by omega), if_neg (by omega)]
      rw [this, ep]
      obtain ⟨b1, b2⟩ := hH.2 j (by omega)
      exact ⟨b1, St_congr b1 (fun c c0 c1 => hfr _ c (hp.1 (j + 1) (by omega)) c0 c1) b2⟩
    · rw [hR 20 (by decide) (by decide) (by decide)]; exact hC.1
    · rw [hR 21 (by decide) (by decide) (by decide)]; exact hC.2
    · rw [hF 189 (by decide), fj 4 (by decide)]; exact hM.1
    · rw [hR 192 (by decide) (by decide) (by decide)]; exact hM.2
