/-! ghosts(): the model. -/
section
variable {p : Nat → Nat} {z l : Nat → Int → Int}
theorem FrQ_L {z z' : Nat → Int → Int} (h : FrL z z') : FrQ z z' := ⟨fun k hk => h.1 k (by omega) (by omega) (by omega), h.1 190 (by decide) (by decide) (by decide), h.1 191 (by decide) (by decide) (by decide), h.1 192 (by decide) (by decide) (by decide), fun j hj => h.2 j (by omega)⟩
set_option maxHeartbeats 8000000 in
theorem m_shows {σ : Int → Int} {i j all o : Int} {nB : Nat} (hσ : z 190 = σ) (hV : V σ) (hnB : σ 58 = nB) (hi : 0 ≤ i) (hi' : i < σ 58) (hj : 0 ≤ j) (hj' : j < σ 58) (ho : 0 ≤ o ∧ o ≤ 60000) (hall : 0 ≤ all ∧ all ≤ 1000000) (htl : z 189 22 = σ 2) {Q : (Nat × Int32 × Int32 × Int32 × Int32 × MS) ⊕ ((Nat × Int32 × Int32 × Int32 × MS) ⊕ (Int32 × MS)) → Prop} (hQ : ∀ (z' : Nat → Int → Int) (v : Int), FrQ z z' → z' 189 22 = σ 2 → (v = 1 ∧ gh σ o i j ∨ v = 0 ∧ ¬gh σ o i j) → Q (.inl (189, I3 o, I3 (all + v), I3 i, I3 (j + 1), M p z' l))) : WP (f_X12_ghosts_40_b 189 (I3 o) (I3 all) (I3 i) (I3 j) (M p z l)) Q := by
  have h58 := hV.2.2.2.2.1
  have htol := hV.2.2.1
  have hgap := hV.1
  have h3 := hV.2.2.2.1
  obtain ⟨hDl, hDv⟩ := bD_r hV hi hi' hj hj' ho
  unfold f_X12_ghosts_40_b
  simp (disch := first | assumption | omega) only [↓b_hid, bH_some, ↓hid_W, W_some, I3_a, I3_s, I3_m, I3_n, I3_l, I3_lt, I3_le, I3_e, I3_dv, I3_rm, I3_mx, I3_mn, I3_ab, cI, bI_0, bI_1, rZ_b, up_same, up_row, up_col, xr_some, LQ_r, LQ_l, Int.sub_self, Int.add_zero, Int.zero_add, Int.sub_zero, Int.neg_neg, not_true_eq_false, not_false_eq_true, Int.add_sub_cancel, ↓ite_iH, iH_t, iH_f, bH_iH, ↓bH_bind, xr_iH, ↓xr_bind, W_iH, WI_t, WI_f, gI_189, pI_189, iO_189, gR_189_0, aI_190, sI_190, gR_189_1, aI_191, sI_191, gR_189_3, aI_192, gR_189_10, aI_193, sI_193, gR_189_11, aI_194, sI_194, gR_189_13, aI_195, sI_195, gR_189_15, aI_196, sI_196, gR_189_17, aI_197, sI_197, gR_189_18, aI_198, sI_198, gR_189_19, aI_199, sI_199, gR_189_20, aI_200, sI_200, gR_189_23, aI_201, gR_189_24, aI_202, sI_202, gR_189_25, aI_203, sI_203, gR_189_29, aI_204, sI_204, gR_189_32, aI_205, sI_205, gR_189_35, aI_206, sI_206, pZ_189, gL_189, pL_189, hσ, iH_pos, iH_neg, WI_pos, WI_neg]
  refine W_bH (W_imp (m_collides hσ hV hi hi' hj hj' ho) ?_)
  rintro _ ⟨z1, rfl, a1, a2, a3⟩
  unfold gh at hQ
  generalize hDe : colD (bσ σ i) (bσ σ j) o = D at *
  have hσ1 : z1 190 = σ := a2.2.1.trans hσ
  simp (disch := first | assumption | omega) only [↓b_hid, bH_some, ↓hid_W, W_some, I3_a, I3_s, I3_m, I3_n, I3_l, I3_lt, I3_le, I3_e, I3_dv, I3_rm, I3_mx, I3_mn, I3_ab, cI, bI_0, bI_1, rZ_b, up_same, up_row, up_col, xr_some, LQ_r, LQ_l, Int.sub_self, Int.add_zero, Int.zero_add, Int.sub_zero, Int.neg_neg, not_true_eq_false, not_false_eq_true, Int.add_sub_cancel, ↓ite_iH, iH_t, iH_f, bH_iH, ↓bH_bind, xr_iH, ↓xr_bind, W_iH, WI_t, WI_f, gI_189, pI_189, iO_189, gR_189_0, aI_190, sI_190, gR_189_1, aI_191, sI_191, gR_189_3, aI_192, gR_189_10, aI_193, sI_193, gR_189_11, aI_194, sI_194, gR_189_13, aI_195, sI_195, gR_189_15, aI_196, sI_196, gR_189_17, aI_197, sI_197, gR_189_18, aI_198, sI_198, gR_189_19, aI_199, sI_199, gR_189_20, aI_200, sI_200, gR_189_23, aI_201, gR_189_24, aI_202, sI_202, gR_189_25, aI_203, sI_203, gR_189_29, aI_204, sI_204, gR_189_32, aI_205, sI_205, gR_189_35, aI_206, sI_206, pZ_189, gL_189, pL_189]
  refine W_bH (W_imp (m_finds (gap := σ 0) a1 (by rw [hσ1]) (by omega) (by omega) (by omega) (by omega) (fun k k0 k1 => by have := hDv _ (lf_mem k0 k1); omega)) ?_)
  rintro _ ⟨z2, rfl, b1, b2⟩
  have hlen := FS_len (d := lf D) (n := D.length) (gap := σ 0) (by omega) (by omega)
  have hgl : gLn σ D ≤ 100 := hlen
  have hQ2 : FrQ z z2 := FrQ_t a2 (FrQ_L b2)
  have ht2 : z2 189 22 = σ 2 := (b2.2 22 (by decide)).trans (a3.trans htl)
  have hE2 : Ed z2 D.length (lf D) (σ 2) := by
    refine ⟨⟨?_, ?_⟩, by omega, ht2, htol, fun k k0 k1 => by have := hDv _ (lf_mem k0 k1); omega⟩
    · rw [b2.2 14 (by decide)]; exact a1.1
    · rw [b2.1 195 (by decide) (by decide) (by decide)]; exact a1.2
  simp (disch := first | assumption | omega) only [↓b_hid, bH_some, ↓hid_W, W_some, I3_a, I3_s, I3_m, I3_n, I3_l, I3_lt, I3_le, I3_e, I3_dv, I3_rm, I3_mx, I3_mn, I3_ab, cI, bI_0, bI_1, rZ_b, up_same, up_row, up_col, xr_some, LQ_r, LQ_l, Int.sub_self, Int.add_zero, Int.zero_add, Int.sub_zero, Int.neg_neg, not_true_eq_false, not_false_eq_true, Int.add_sub_cancel, ↓ite_iH, iH_t, iH_f, bH_iH, ↓bH_bind, xr_iH, ↓xr_bind, W_iH, WI_t, WI_f]
  unfold f_X12_ghosts_70
  refine lp_W (fun n st => ∃ (v : Int) (k : Nat) (z' : Nat → Int → Int), st = (189, I3 o, I3 all, I3 i, I3 j, I3 v, I3 k, M p z' l) ∧ k ≤ gLn σ D ∧ n = gLn σ D - k ∧ FrD z2 z' ∧ (v = 1 ∧ (∃ k' : Nat, k' < k ∧ ghk σ D i j k') ∨ v = 0 ∧ ¬∃ k' : Nat, k' < k ∧ ghk σ D i j k')) (fun n st hst => ?_) ⟨0, 0, z2, rfl, by omega, rfl, ⟨fun _ _ _ _ _ => rfl, fun _ _ _ _ => rfl⟩, Or.inr ⟨rfl, fun ⟨k', h, _⟩ => by omega⟩⟩
  obtain ⟨v, k, z3, rfl, hk, rfl, hF, hv⟩ := hst
  have hF3 : FrQ z z3 := FrQ_t hQ2 (FrQ_D hF)
  have hσ3 : z3 190 = σ := hF3.2.1.trans hσ
  have hL3 : FLm z3 (FS (lf D) D.length (σ 0)) := by
    obtain ⟨x, y⟩ := b1
    refine ⟨by rw [hF.2 21 (by decide) (by decide) (by decide)]; exact x, ?_⟩
    rw [hF.1 199 (by decide) (by decide) (by decide) (by decide), hF.1 200 (by decide) (by decide) (by decide) (by decide)]; exact y
  have e21 : z3 189 21 = gLn σ D := hL3.1
  have hv01 : v = 0 ∨ v = 1 := by omega
  unfold f_X12_ghosts_70_b
  by_cases hkn : k < gLn σ D
  · simp (disch := first | assumption | omega) only [↓b_hid, bH_some, ↓hid_W, W_some, I3_a, I3_s, I3_m, I3_n, I3_l, I3_lt, I3_le, I3_e, I3_dv, I3_rm, I3_mx, I3_mn, I3_ab, cI, bI_0, bI_1, rZ_b, up_same, up_row, up_col, xr_some, LQ_r, LQ_l, Int.sub_self, Int.add_zero, Int.zero_add, Int.sub_zero, Int.neg_neg, not_true_eq_false, not_false_eq_true, Int.add_sub_cancel, ↓ite_iH, iH_t, iH_f, bH_iH, ↓bH_bind, xr_iH, ↓xr_bind, W_iH, WI_t, WI_f, gI_189, pI_189, iO_189, gR_189_0, aI_190, sI_190, gR_189_1, aI_191, sI_191, gR_189_3, aI_192, gR_189_10, aI_193, sI_193, gR_189_11, aI_194, sI_194, gR_189_13, aI_195, sI_195, gR_189_15, aI_196, sI_196, gR_189_17, aI_197, sI_197, gR_189_18, aI_198, sI_198, gR_189_19, aI_199, sI_199, gR_189_20, aI_200, sI_200, gR_189_23, aI_201, gR_189_24, aI_202, sI_202, gR_189_25, aI_203, sI_203, gR_189_29, aI_204, sI_204, gR_189_32, aI_205, sI_205, gR_189_35, aI_206, sI_206, pZ_189, gL_189, pL_189, e21, iH_pos, iH_neg, WI_pos, WI_neg]
    refine W_bH (W_imp (m_dcd hσ3 hV hL3 (by omega) (by omega) hkn (Ed_D hF hE2)) ?_)
    rintro _ ⟨w, z4, rfl, c1, c2⟩
    have c2 : (w = 0 ∧ (gDt σ D k).1 = -9 ∧ z4 189 28 = 0) ∨ (w = 1 ∧ (gDt σ D k).1 ≠ -9 ∧ z4 189 26 = (gDt σ D k).1 ∧ z4 189 27 = (gDt σ D k).2 ∧ z4 189 28 = if (gDt σ D k).2 = -9 then 1 else 0) := c2
    have hF4 : FrD z2 z4 := ⟨fun c c0 c1' c2' c3 => (c1.1 c c0 c1' c2' c3).trans (hF.1 c c0 c1' c2' c3), fun c c0 c1' c2' => (c1.2 c c0 c1' c2').trans (hF.2 c c0 c1' c2')⟩
    have hσ4 : z4 190 = σ := (c1.1 190 (by decide) (by decide) (by decide) (by decide)).trans hσ3
    have hr2 := gDt_r (D := D) (k := k) hV
    -- behind the turn
    have turn : ∀ x : Int, (x = 1 ∧ (∃ k' : Nat, k' < k + 1 ∧ ghk σ D i j k') ∨ x = 0 ∧ ¬∃ k' : Nat, k' < k + 1 ∧ ghk σ D i j k') → WP (f_X12_ghosts_152 189 (I3 o) (I3 all) (I3 i) (I3 j) (I3 k) (I3 x) (M p z4 l)) (LQ Q (fun n st => ∃ (v : Int) (k : Nat) (z' : Nat → Int → Int), st = (189, I3 o, I3 all, I3 i, I3 j, I3 v, I3 k, M p z' l) ∧ k ≤ gLn σ D ∧ n = gLn σ D - k ∧ FrD z2 z' ∧ (v = 1 ∧ (∃ k' : Nat, k' < k ∧ ghk σ D i j k') ∨ v = 0 ∧ ¬∃ k' : Nat, k' < k ∧ ghk σ D i j k')) (gLn σ D - k)) := by
      intro x hx
      unfold f_X12_ghosts_152
      simp (disch := first | assumption | omega) only [↓b_hid, bH_some, ↓hid_W, W_some, I3_a, I3_s, I3_m, I3_n, I3_l, I3_lt, I3_le, I3_e, I3_dv, I3_rm, I3_mx, I3_mn, I3_ab, cI, bI_0, bI_1, rZ_b, up_same, up_row, up_col, xr_some, LQ_r, LQ_l, Int.sub_self, Int.add_zero, Int.zero_add, Int.sub_zero, Int.neg_neg, not_true_eq_false, not_false_eq_true, Int.add_sub_cancel, ↓ite_iH, iH_t, iH_f, bH_iH, ↓bH_bind, xr_iH, ↓xr_bind, W_iH, WI_t, WI_f]
      refine ⟨_, ?_, x, k + 1, z4, by rw [Int.natCast_add]; rfl, by omega, rfl, hF4, hx⟩
      omega
    have yes : (v = 1 ∨ ghk σ D i j k) → WP (f_X12_ghosts_147 189 (I3 o) (I3 all) (I3 i) (I3 j) (I3 k) (M p z4 l)) (LQ Q (fun n st => ∃ (v : Int) (k : Nat) (z' : Nat → Int → Int), st = (189, I3 o, I3 all, I3 i, I3 j, I3 v, I3 k, M p z' l) ∧ k ≤ gLn σ D ∧ n = gLn σ D - k ∧ FrD z2 z' ∧ (v = 1 ∧ (∃ k' : Nat, k' < k ∧ ghk σ D i j k') ∨ v = 0 ∧ ¬∃ k' : Nat, k' < k ∧ ghk σ D i j k')) (gLn σ D - k)) := by
      intro h
      unfold f_X12_ghosts_147
      have := turn 1 (Or.inl ⟨rfl, by
        rcases h with h | h
        · rcases hv with ⟨_, k', h1, h2⟩ | ⟨h1, _⟩
          · exact ⟨k', by omega, h2⟩
          · omega
        · exact ⟨k, by omega, h⟩⟩)
      simp (disch := first | assumption | omega) only [↓b_hid, bH_some, ↓hid_W, W_some, I3_a, I3_s, I3_m, I3_n, I3_l, I3_lt, I3_le, I3_e, I3_dv, I3_rm, I3_mx, I3_mn, I3_ab, cI, bI_0, bI_1, rZ_b, up_same, up_row, up_col, xr_some, LQ_r, LQ_l, Int.sub_self, Int.add_zero, Int.zero_add, Int.sub_zero, Int.neg_neg, not_true_eq_false, not_false_eq_true, Int.add_sub_cancel, ↓ite_iH, iH_t, iH_f, bH_iH, ↓bH_bind, xr_iH, ↓xr_bind, W_iH, WI_t, WI_f]
      exact this
    have no : v = 0 → ¬ghk σ D i j k → WP (f_X12_ghosts_151 189 (I3 o) (I3 all) (I3 i) (I3 j) (I3 k) (M p z4 l)) (LQ Q (fun n st => ∃ (v : Int) (k : Nat) (z' : Nat → Int → Int), st = (189, I3 o, I3 all, I3 i, I3 j, I3 v, I3 k, M p z' l) ∧ k ≤ gLn σ D ∧ n = gLn σ D - k ∧ FrD z2 z' ∧ (v = 1 ∧ (∃ k' : Nat, k' < k ∧ ghk σ D i j k') ∨ v = 0 ∧ ¬∃ k' : Nat, k' < k ∧ ghk σ D i j k')) (gLn σ D - k)) := by
      intro h0 hg
      unfold f_X12_ghosts_151
      have := turn 0 (Or.inr ⟨rfl, by
        rintro ⟨k', h1, h2⟩
        by_cases hkk : k' = k
        · subst hkk; exact hg h2
        · rcases hv with ⟨h, _⟩ | ⟨_, h⟩
          · omega
          · exact h ⟨k', by omega, h2⟩⟩)
      simp (disch := first | assumption | omega) only [↓b_hid, bH_some, ↓hid_W, W_some, I3_a, I3_s, I3_m, I3_n, I3_l, I3_lt, I3_le, I3_e, I3_dv, I3_rm, I3_mx, I3_mn, I3_ab, cI, bI_0, bI_1, rZ_b, up_same, up_row, up_col, xr_some, LQ_r, LQ_l, Int.sub_self, Int.add_zero, Int.zero_add, Int.sub_zero, Int.neg_neg, not_true_eq_false, not_false_eq_true, Int.add_sub_cancel, ↓ite_iH, iH_t, iH_f, bH_iH, ↓bH_bind, xr_iH, ↓xr_bind, W_iH, WI_t, WI_f]
      exact this
    -- the button that is shown
    have h120 : ∀ s0 : Int, (-9 ≤ s0 ∧ s0 < 12) → (ghk σ D i j k ↔ (s0 ≠ -9 ∧ s0 ≠ i ∧ s0 ≠ j)) → WP (f_X12_ghosts_120 189 (I3 o) (I3 all) (I3 i) (I3 j) (I3 v) (I3 k) (I3 s0) (M p z4 l)) (LQ Q (fun n st => ∃ (v : Int) (k : Nat) (z' : Nat → Int → Int), st = (189, I3 o, I3 all, I3 i, I3 j, I3 v, I3 k, M p z' l) ∧ k ≤ gLn σ D ∧ n = gLn σ D - k ∧ FrD z2 z' ∧ (v = 1 ∧ (∃ k' : Nat, k' < k ∧ ghk σ D i j k') ∨ v = 0 ∧ ¬∃ k' : Nat, k' < k ∧ ghk σ D i j k')) (gLn σ D - k)) := by
      intro s0 hs0 hiff
      unfold f_X12_ghosts_120
      by_cases hv1 : v = 1
      · have := yes (Or.inl hv1)
        simp (disch := first | assumption | omega) only [↓b_hid, bH_some, ↓hid_W, W_some, I3_a, I3_s, I3_m, I3_n, I3_l, I3_lt, I3_le, I3_e, I3_dv, I3_rm, I3_mx, I3_mn, I3_ab, cI, bI_0, bI_1, rZ_b, up_same, up_row, up_col, xr_some, LQ_r, LQ_l, Int.sub_self, Int.add_zero, Int.zero_add, Int.sub_zero, Int.neg_neg, not_true_eq_false, not_false_eq_true, Int.add_sub_cancel, ↓ite_iH, iH_t, iH_f, bH_iH, ↓bH_bind, xr_iH, ↓xr_bind, W_iH, WI_t, WI_f, iH_pos, iH_neg, WI_pos, WI_neg]
        exact this
      · have hv0 : v = 0 := by omega
        simp (disch := first | assumption | omega) only [↓b_hid, bH_some, ↓hid_W, W_some, I3_a, I3_s, I3_m, I3_n, I3_l, I3_lt, I3_le, I3_e, I3_dv, I3_rm, I3_mx, I3_mn, I3_ab, cI, bI_0, bI_1, rZ_b, up_same, up_row, up_col, xr_some, LQ_r, LQ_l, Int.sub_self, Int.add_zero, Int.zero_add, Int.sub_zero, Int.neg_neg, not_true_eq_false, not_false_eq_true, Int.add_sub_cancel, ↓ite_iH, iH_t, iH_f, bH_iH, ↓bH_bind, xr_iH, ↓xr_bind, W_iH, WI_t, WI_f, iH_pos, iH_neg, WI_pos, WI_neg]
        refine WI_i (fun q1 => ?_) (fun q1 => ?_)
        · simp (disch := first | assumption | omega) only [↓b_hid, bH_some, ↓hid_W, W_some, I3_a, I3_s, I3_m, I3_n, I3_l, I3_lt, I3_le, I3_e, I3_dv, I3_rm, I3_mx, I3_mn, I3_ab, cI, bI_0, bI_1, rZ_b, up_same, up_row, up_col, xr_some, LQ_r, LQ_l, Int.sub_self, Int.add_zero, Int.zero_add, Int.sub_zero, Int.neg_neg, not_true_eq_false, not_false_eq_true, Int.add_sub_cancel, ↓ite_iH, iH_t, iH_f, bH_iH, ↓bH_bind, xr_iH, ↓xr_bind, W_iH, WI_t, WI_f]; exact no hv0 (fun h => (hiff.mp h).1 q1)
        simp (disch := first | assumption | omega) only [↓b_hid, bH_some, ↓hid_W, W_some, I3_a, I3_s, I3_m, I3_n, I3_l, I3_lt, I3_le, I3_e, I3_dv, I3_rm, I3_mx, I3_mn, I3_ab, cI, bI_0, bI_1, rZ_b, up_same, up_row, up_col, xr_some, LQ_r, LQ_l, Int.sub_self, Int.add_zero, Int.zero_add, Int.sub_zero, Int.neg_neg, not_true_eq_false, not_false_eq_true, Int.add_sub_cancel, ↓ite_iH, iH_t, iH_f, bH_iH, ↓bH_bind, xr_iH, ↓xr_bind, W_iH, WI_t, WI_f]
        refine WI_i (fun q2 => ?_) (fun q2 => ?_)
        · simp (disch := first | assumption | omega) only [↓b_hid, bH_some, ↓hid_W, W_some, I3_a, I3_s, I3_m, I3_n, I3_l, I3_lt, I3_le, I3_e, I3_dv, I3_rm, I3_mx, I3_mn, I3_ab, cI, bI_0, bI_1, rZ_b, up_same, up_row, up_col, xr_some, LQ_r, LQ_l, Int.sub_self, Int.add_zero, Int.zero_add, Int.sub_zero, Int.neg_neg, not_true_eq_false, not_false_eq_true, Int.add_sub_cancel, ↓ite_iH, iH_t, iH_f, bH_iH, ↓bH_bind, xr_iH, ↓xr_bind, W_iH, WI_t, WI_f]; exact no hv0 (fun h => (hiff.mp h).2.1 q2)
        simp (disch := first | assumption | omega) only [↓b_hid, bH_some, ↓hid_W, W_some, I3_a, I3_s, I3_m, I3_n, I3_l, I3_lt, I3_le, I3_e, I3_dv, I3_rm, I3_mx, I3_mn, I3_ab, cI, bI_0, bI_1, rZ_b, up_same, up_row, up_col, xr_some, LQ_r, LQ_l, Int.sub_self, Int.add_zero, Int.zero_add, Int.sub_zero, Int.neg_neg, not_true_eq_false, not_false_eq_true, Int.add_sub_cancel, ↓ite_iH, iH_t, iH_f, bH_iH, ↓bH_bind, xr_iH, ↓xr_bind, W_iH, WI_t, WI_f]
        refine WI_i (fun q3 => ?_) (fun q3 => ?_)
        · simp (disch := first | assumption | omega) only [↓b_hid, bH_some, ↓hid_W, W_some, I3_a, I3_s, I3_m, I3_n, I3_l, I3_lt, I3_le, I3_e, I3_dv, I3_rm, I3_mx, I3_mn, I3_ab, cI, bI_0, bI_1, rZ_b, up_same, up_row, up_col, xr_some, LQ_r, LQ_l, Int.sub_self, Int.add_zero, Int.zero_add, Int.sub_zero, Int.neg_neg, not_true_eq_false, not_false_eq_true, Int.add_sub_cancel, ↓ite_iH, iH_t, iH_f, bH_iH, ↓bH_bind, xr_iH, ↓xr_bind, W_iH, WI_t, WI_f]; exact no hv0 (fun h => (hiff.mp h).2.2 q3)
        simp (disch := first | assumption | omega) only [↓b_hid, bH_some, ↓hid_W, W_some, I3_a, I3_s, I3_m, I3_n, I3_l, I3_lt, I3_le, I3_e, I3_dv, I3_rm, I3_mx, I3_mn, I3_ab, cI, bI_0, bI_1, rZ_b, up_same, up_row, up_col, xr_some, LQ_r, LQ_l, Int.sub_self, Int.add_zero, Int.zero_add, Int.sub_zero, Int.neg_neg, not_true_eq_false, not_false_eq_true, Int.add_sub_cancel, ↓ite_iH, iH_t, iH_f, bH_iH, ↓bH_bind, xr_iH, ↓xr_bind, W_iH, WI_t, WI_f]; exact yes (Or.inr (hiff.mpr ⟨q1, q2, q3⟩))
    have h118 : (gDt σ D k).2 = -9 → WP (f_X12_ghosts_118 189 (I3 o) (I3 all) (I3 i) (I3 j) (I3 v) (I3 k) (M p z4 l)) (LQ Q (fun n st => ∃ (v : Int) (k : Nat) (z' : Nat → Int → Int), st = (189, I3 o, I3 all, I3 i, I3 j, I3 v, I3 k, M p z' l) ∧ k ≤ gLn σ D ∧ n = gLn σ D - k ∧ FrD z2 z' ∧ (v = 1 ∧ (∃ k' : Nat, k' < k ∧ ghk σ D i j k') ∨ v = 0 ∧ ¬∃ k' : Nat, k' < k ∧ ghk σ D i j k')) (gLn σ D - k)) := by
      intro h9
      unfold f_X12_ghosts_118
      have := h120 (-9) (by omega) ⟨fun h => absurd h9 h.1, fun h => absurd rfl h.1⟩
      simp (disch := first | assumption | omega) only [↓b_hid, bH_some, ↓hid_W, W_some, I3_a, I3_s, I3_m, I3_n, I3_l, I3_lt, I3_le, I3_e, I3_dv, I3_rm, I3_mx, I3_mn, I3_ab, cI, bI_0, bI_1, rZ_b, up_same, up_row, up_col, xr_some, LQ_r, LQ_l, Int.sub_self, Int.add_zero, Int.zero_add, Int.sub_zero, Int.neg_neg, not_true_eq_false, not_false_eq_true, Int.add_sub_cancel, ↓ite_iH, iH_t, iH_f, bH_iH, ↓bH_bind, xr_iH, ↓xr_bind, W_iH, WI_t, WI_f]
      exact this
    rcases c2 with ⟨rfl, d1, d2⟩ | ⟨rfl, d1, d2, d3, d4⟩
    · have := h118 (by omega)
      simp (disch := first | assumption | omega) only [↓b_hid, bH_some, ↓hid_W, W_some, I3_a, I3_s, I3_m, I3_n, I3_l, I3_lt, I3_le, I3_e, I3_dv, I3_rm, I3_mx, I3_mn, I3_ab, cI, bI_0, bI_1, rZ_b, up_same, up_row, up_col, xr_some, LQ_r, LQ_l, Int.sub_self, Int.add_zero, Int.zero_add, Int.sub_zero, Int.neg_neg, not_true_eq_false, not_false_eq_true, Int.add_sub_cancel, ↓ite_iH, iH_t, iH_f, bH_iH, ↓bH_bind, xr_iH, ↓xr_bind, W_iH, WI_t, WI_f, iH_pos, iH_neg, WI_pos, WI_neg]
      exact this
    · by_cases h9 : (gDt σ D k).2 = -9
      · rw [if_pos h9] at d4
        have := h118 h9
        simp (disch := first | assumption | omega) only [↓b_hid, bH_some, ↓hid_W, W_some, I3_a, I3_s, I3_m, I3_n, I3_l, I3_lt, I3_le, I3_e, I3_dv, I3_rm, I3_mx, I3_mn, I3_ab, cI, bI_0, bI_1, rZ_b, up_same, up_row, up_col, xr_some, LQ_r, LQ_l, Int.sub_self, Int.add_zero, Int.zero_add, Int.sub_zero, Int.neg_neg, not_true_eq_false, not_false_eq_true, Int.add_sub_cancel, ↓ite_iH, iH_t, iH_f, bH_iH, ↓bH_bind, xr_iH, ↓xr_bind, W_iH, WI_t, WI_f, gI_189, pI_189, iO_189, gR_189_0, aI_190, sI_190, gR_189_1, aI_191, sI_191, gR_189_3, aI_192, gR_189_10, aI_193, sI_193, gR_189_11, aI_194, sI_194, gR_189_13, aI_195, sI_195, gR_189_15, aI_196, sI_196, gR_189_17, aI_197, sI_197, gR_189_18, aI_198, sI_198, gR_189_19, aI_199, sI_199, gR_189_20, aI_200, sI_200, gR_189_23, aI_201, gR_189_24, aI_202, sI_202, gR_189_25, aI_203, sI_203, gR_189_29, aI_204, sI_204, gR_189_32, aI_205, sI_205, gR_189_35, aI_206, sI_206, pZ_189, gL_189, pL_189, d4, iH_pos, iH_neg, WI_pos, WI_neg]
        exact this
      · rw [if_neg h9] at d4
        have hcd : (0 ≤ (gDt σ D k).1 ∧ (gDt σ D k).1 < σ 3) ∧ 0 ≤ (gDt σ D k).2 ∧ (gDt σ D k).2 ≤ 1000000 := by omega
        have i1 := m_identity (p := p) (l := l) hσ4 hV hcd.1.1 hcd.1.2 hcd.2.1
        have hir := idn_r (f := Fσ σ (gDt σ D k).1.toNat) hcd.2.1
        have i2 := m_buttonOf (p := p) (l := l) (x := (gDt σ D k).1) (y := idn (Fσ σ (gDt σ D k).1.toNat) (gDt σ D k).2) hσ4 hV (by omega) (by omega) (by omega) (by omega)
        have hsr := fBσ_r hV (gDt σ D k).1 (idn (Fσ σ (gDt σ D k).1.toNat) (gDt σ D k).2)
        have hsh : fBσ σ (gDt σ D k).1 (idn (Fσ σ (gDt σ D k).1.toNat) (gDt σ D k).2) = gSh σ D k := rfl
        rw [hsh] at i2 hsr
        have := h120 (gSh σ D k) hsr ⟨fun h => h.2, fun h => ⟨h9, h⟩⟩
        simp (disch := first | assumption | omega) only [↓b_hid, bH_some, ↓hid_W, W_some, I3_a, I3_s, I3_m, I3_n, I3_l, I3_lt, I3_le, I3_e, I3_dv, I3_rm, I3_mx, I3_mn, I3_ab, cI, bI_0, bI_1, rZ_b, up_same, up_row, up_col, xr_some, LQ_r, LQ_l, Int.sub_self, Int.add_zero, Int.zero_add, Int.sub_zero, Int.neg_neg, not_true_eq_false, not_false_eq_true, Int.add_sub_cancel, ↓ite_iH, iH_t, iH_f, bH_iH, ↓bH_bind, xr_iH, ↓xr_bind, W_iH, WI_t, WI_f, gI_189, pI_189, iO_189, gR_189_0, aI_190, sI_190, gR_189_1, aI_191, sI_191, gR_189_3, aI_192, gR_189_10, aI_193, sI_193, gR_189_11, aI_194, sI_194, gR_189_13, aI_195, sI_195, gR_189_15, aI_196, sI_196, gR_189_17, aI_197, sI_197, gR_189_18, aI_198, sI_198, gR_189_19, aI_199, sI_199, gR_189_20, aI_200, sI_200, gR_189_23, aI_201, gR_189_24, aI_202, sI_202, gR_189_25, aI_203, sI_203, gR_189_29, aI_204, sI_204, gR_189_32, aI_205, sI_205, gR_189_35, aI_206, sI_206, pZ_189, gL_189, pL_189, d4, d2, d3, i1, i2, iH_pos, iH_neg, WI_pos, WI_neg]
        exact this
  · have hke : k = gLn σ D := by omega
    simp (disch := first | assumption | omega) only [↓b_hid, bH_some, ↓hid_W, W_some, I3_a, I3_s, I3_m, I3_n, I3_l, I3_lt, I3_le, I3_e, I3_dv, I3_rm, I3_mx, I3_mn, I3_ab, cI, bI_0, bI_1, rZ_b, up_same, up_row, up_col, xr_some, LQ_r, LQ_l, Int.sub_self, Int.add_zero, Int.zero_add, Int.sub_zero, Int.neg_neg, not_true_eq_false, not_false_eq_true, Int.add_sub_cancel, ↓ite_iH, iH_t, iH_f, bH_iH, ↓bH_bind, xr_iH, ↓xr_bind, W_iH, WI_t, WI_f, gI_189, pI_189, iO_189, gR_189_0, aI_190, sI_190, gR_189_1, aI_191, sI_191, gR_189_3, aI_192, gR_189_10, aI_193, sI_193, gR_189_11, aI_194, sI_194, gR_189_13, aI_195, sI_195, gR_189_15, aI_196, sI_196, gR_189_17, aI_197, sI_197, gR_189_18, aI_198, sI_198, gR_189_19, aI_199, sI_199, gR_189_20, aI_200, sI_200, gR_189_23, aI_201, gR_189_24, aI_202, sI_202, gR_189_25, aI_203, sI_203, gR_189_29, aI_204, sI_204, gR_189_32, aI_205, sI_205, gR_189_35, aI_206, sI_206, pZ_189, gL_189, pL_189, e21, iH_pos, iH_neg, WI_pos, WI_neg]
    refine W_xr ?_
    simp only [LQ_r]
    have ht3 : z3 189 22 = σ 2 := (hF.2 22 (by decide) (by decide) (by decide)).trans ht2
    unfold f_X12_ghosts_160
    subst hke
    rcases hv with ⟨rfl, hg⟩ | ⟨rfl, hg⟩
    · simp (disch := first | assumption | omega) only [↓b_hid, bH_some, ↓hid_W, W_some, I3_a, I3_s, I3_m, I3_n, I3_l, I3_lt, I3_le, I3_e, I3_dv, I3_rm, I3_mx, I3_mn, I3_ab, cI, bI_0, bI_1, rZ_b, up_same, up_row, up_col, xr_some, LQ_r, LQ_l, Int.sub_self, Int.add_zero, Int.zero_add, Int.sub_zero, Int.neg_neg, not_true_eq_false, not_false_eq_true, Int.add_sub_cancel, ↓ite_iH, iH_t, iH_f, bH_iH, ↓bH_bind, xr_iH, ↓xr_bind, W_iH, WI_t, WI_f, f_X12_ghosts_171, iH_pos, iH_neg, WI_pos, WI_neg]
      exact hQ z3 1 hF3 ht3 (Or.inl ⟨rfl, hg⟩)
    · simp (disch := first | assumption | omega) only [↓b_hid, bH_some, ↓hid_W, W_some, I3_a, I3_s, I3_m, I3_n, I3_l, I3_lt, I3_le, I3_e, I3_dv, I3_rm, I3_mx, I3_mn, I3_ab, cI, bI_0, bI_1, rZ_b, up_same, up_row, up_col, xr_some, LQ_r, LQ_l, Int.sub_self, Int.add_zero, Int.zero_add, Int.sub_zero, Int.neg_neg, not_true_eq_false, not_false_eq_true, Int.add_sub_cancel, ↓ite_iH, iH_t, iH_f, bH_iH, ↓bH_bind, xr_iH, ↓xr_bind, W_iH, WI_t, WI_f, f_X12_ghosts_171, iH_pos, iH_neg, WI_pos, WI_neg]
      have := hQ z3 0 hF3 ht3 (Or.inr ⟨rfl, hg⟩)
      rw [Int.add_zero] at this
      exact this
set_option maxHeartbeats 4000000 in
theorem m_ghosts {σ : Int → Int} {o : Int} (hσ : z 190 = σ) (hV : V σ) (ho : -2147483648 ≤ o ∧ o < 2147483648) : WP (f_X12_ghosts 189 (I3 o) (M p z l)) (fun r => ∃ z', r = (I3 (A_ghosts σ o), M p z' l) ∧ FrQ z z') := by
  have h58 := hV.2.2.2.2.1
  unfold f_X12_ghosts A_ghosts
  by_cases h1 : 0 ≤ o ∧ o ≤ 60000
  case neg =>
    rw [if_neg h1]
    simp (disch := first | assumption | omega) only [↓b_hid, bH_some, ↓hid_W, W_some, I3_a, I3_s, I3_m, I3_n, I3_l, I3_lt, I3_le, I3_e, I3_dv, I3_rm, I3_mx, I3_mn, I3_ab, cI, bI_0, bI_1, rZ_b, up_same, up_row, up_col, xr_some, LQ_r, LQ_l, Int.sub_self, Int.add_zero, Int.zero_add, Int.sub_zero, Int.neg_neg, not_true_eq_false, not_false_eq_true, Int.add_sub_cancel, ↓ite_iH, iH_t, iH_f, bH_iH, ↓bH_bind, xr_iH, ↓xr_bind, W_iH, WI_t, WI_f, m_in, bI_f, iH_pos, iH_neg, WI_pos, WI_neg]
    exact ⟨z, rfl, FrQ_r z⟩
  rw [if_pos h1]
  simp (disch := first | assumption | omega) only [↓b_hid, bH_some, ↓hid_W, W_some, I3_a, I3_s, I3_m, I3_n, I3_l, I3_lt, I3_le, I3_e, I3_dv, I3_rm, I3_mx, I3_mn, I3_ab, cI, bI_0, bI_1, rZ_b, up_same, up_row, up_col, xr_some, LQ_r, LQ_l, Int.sub_self, Int.add_zero, Int.zero_add, Int.sub_zero, Int.neg_neg, not_true_eq_false, not_false_eq_true, Int.add_sub_cancel, ↓ite_iH, iH_t, iH_f, bH_iH, ↓bH_bind, xr_iH, ↓xr_bind, W_iH, WI_t, WI_f, gI_189, pI_189, iO_189, gR_189_0, aI_190, sI_190, gR_189_1, aI_191, sI_191, gR_189_3, aI_192, gR_189_10, aI_193, sI_193, gR_189_11, aI_194, sI_194, gR_189_13, aI_195, sI_195, gR_189_15, aI_196, sI_196, gR_189_17, aI_197, sI_197, gR_189_18, aI_198, sI_198, gR_189_19, aI_199, sI_199, gR_189_20, aI_200, sI_200, gR_189_23, aI_201, gR_189_24, aI_202, sI_202, gR_189_25, aI_203, sI_203, gR_189_29, aI_204, sI_204, gR_189_32, aI_205, sI_205, gR_189_35, aI_206, sI_206, pZ_189, gL_189, pL_189, m_in, bI_t, hσ, iH_pos, iH_neg, WI_pos, WI_neg]
  generalize hz1 : up z 189 22 (σ 2) = z1
  have hQ1 : FrQ z z1 := by rw [← hz1]; exact FrQ_up (Or.inl ⟨rfl, by decide⟩) _
  have t1 : z1 189 22 = σ 2 := by rw [← hz1, up_same]
  generalize hnB : (σ 58).toNat = nB
  have hnB' : σ 58 = (nB : Int) := by omega
  unfold f_X12_ghosts_26
  refine lp_W (fun n st => ∃ (i : Nat) (z' : Nat → Int → Int), st = (189, I3 o, I3 (cIg (gh σ o) nB i), I3 i, M p z' l) ∧ i ≤ nB ∧ n = nB - i ∧ (FrQ z z' ∧ z' 189 22 = σ 2)) (fun n st hst => ?_) ⟨0, z1, rfl, by omega, rfl, hQ1, t1⟩
  obtain ⟨i, z2, rfl, hi, rfl, hF, ht⟩ := hst
  have hσ2 : z2 190 = σ := hF.2.1.trans hσ
  have hci := cIg_r (gh σ o) nB i
  have hci2 : (nB : Int) * i ≤ 144 := Int.le_trans (Int.mul_le_mul (show (nB : Int) ≤ 12 by omega) (show (i : Int) ≤ 12 by omega) (by omega) (by omega)) (by decide)
  unfold f_X12_ghosts_26_b
  by_cases hin : i < nB
  · simp (disch := first | assumption | omega) only [↓b_hid, bH_some, ↓hid_W, W_some, I3_a, I3_s, I3_m, I3_n, I3_l, I3_lt, I3_le, I3_e, I3_dv, I3_rm, I3_mx, I3_mn, I3_ab, cI, bI_0, bI_1, rZ_b, up_same, up_row, up_col, xr_some, LQ_r, LQ_l, Int.sub_self, Int.add_zero, Int.zero_add, Int.sub_zero, Int.neg_neg, not_true_eq_false, not_false_eq_true, Int.add_sub_cancel, ↓ite_iH, iH_t, iH_f, bH_iH, ↓bH_bind, xr_iH, ↓xr_bind, W_iH, WI_t, WI_f, gI_189, pI_189, iO_189, gR_189_0, aI_190, sI_190, gR_189_1, aI_191, sI_191, gR_189_3, aI_192, gR_189_10, aI_193, sI_193, gR_189_11, aI_194, sI_194, gR_189_13, aI_195, sI_195, gR_189_15, aI_196, sI_196, gR_189_17, aI_197, sI_197, gR_189_18, aI_198, sI_198, gR_189_19, aI_199, sI_199, gR_189_20, aI_200, sI_200, gR_189_23, aI_201, gR_189_24, aI_202, sI_202, gR_189_25, aI_203, sI_203, gR_189_29, aI_204, sI_204, gR_189_32, aI_205, sI_205, gR_189_35, aI_206, sI_206, pZ_189, gL_189, pL_189, hσ2, hnB', iH_pos, iH_neg, WI_pos, WI_neg]
    unfold f_X12_ghosts_40
    refine lp_W (fun n st => ∃ (m : Nat) (z' : Nat → Int → Int), st = (189, I3 o, I3 (cIg (gh σ o) nB i + cJ (gh σ o i) i m), I3 i, I3 (i + m), M p z' l) ∧ i + m ≤ nB ∧ n = nB - i - m ∧ (FrQ z z' ∧ z' 189 22 = σ 2)) (fun n st hst => ?_) ⟨0, z2, by rw [cJ, Int.add_zero]; rfl, by omega, rfl, hF, ht⟩
    obtain ⟨m, z3, rfl, hm, rfl, hF3, ht3⟩ := hst
    have hcj := cJ_r (gh σ o i) i m
    have hσ3 : z3 190 = σ := hF3.2.1.trans hσ
    by_cases hjn : i + m < nB
    · refine m_shows (i := i) (j := i + m) hσ3 hV hnB' (by omega) (by omega) (by omega) (by omega) h1 (by omega) ht3 (fun z' v q1 q2 q3 => ?_)
      rw [LQ_l]
      refine ⟨_, ?_, m + 1, z', ?_, by omega, rfl, FrQ_t hF3 q1, q2⟩
      · omega
      · rcases q3 with ⟨rfl, q3⟩ | ⟨rfl, q3⟩
        · rw [cJ, cif_t q3, Int.natCast_add, ← Int.add_assoc, ← Int.add_assoc]; rfl
        · rw [cJ, cif_f q3, Int.natCast_add, ← Int.add_assoc, ← Int.add_assoc]; rfl
    · have hme : m = nB - i := by omega
      unfold f_X12_ghosts_40_b
      simp (disch := first | assumption | omega) only [↓b_hid, bH_some, ↓hid_W, W_some, I3_a, I3_s, I3_m, I3_n, I3_l, I3_lt, I3_le, I3_e, I3_dv, I3_rm, I3_mx, I3_mn, I3_ab, cI, bI_0, bI_1, rZ_b, up_same, up_row, up_col, xr_some, LQ_r, LQ_l, Int.sub_self, Int.add_zero, Int.zero_add, Int.sub_zero, Int.neg_neg, not_true_eq_false, not_false_eq_true, Int.add_sub_cancel, ↓ite_iH, iH_t, iH_f, bH_iH, ↓bH_bind, xr_iH, ↓xr_bind, W_iH, WI_t, WI_f, gI_189, pI_189, iO_189, gR_189_0, aI_190, sI_190, gR_189_1, aI_191, sI_191, gR_189_3, aI_192, gR_189_10, aI_193, sI_193, gR_189_11, aI_194, sI_194, gR_189_13, aI_195, sI_195, gR_189_15, aI_196, sI_196, gR_189_17, aI_197, sI_197, gR_189_18, aI_198, sI_198, gR_189_19, aI_199, sI_199, gR_189_20, aI_200, sI_200, gR_189_23, aI_201, gR_189_24, aI_202, sI_202, gR_189_25, aI_203, sI_203, gR_189_29, aI_204, sI_204, gR_189_32, aI_205, sI_205, gR_189_35, aI_206, sI_206, pZ_189, gL_189, pL_189, hσ3, hnB', f_X12_ghosts_179, iH_pos, iH_neg, WI_pos, WI_neg]
      refine ⟨_, ?_, i + 1, z3, ?_, by omega, rfl, hF3, ht3⟩
      · omega
      · rw [cIg, hme, Int.natCast_add]; rfl
  · have : i = nB := by omega
    subst this
    simp (disch := first | assumption | omega) only [↓b_hid, bH_some, ↓hid_W, W_some, I3_a, I3_s, I3_m, I3_n, I3_l, I3_lt, I3_le, I3_e, I3_dv, I3_rm, I3_mx, I3_mn, I3_ab, cI, bI_0, bI_1, rZ_b, up_same, up_row, up_col, xr_some, LQ_r, LQ_l, Int.sub_self, Int.add_zero, Int.zero_add, Int.sub_zero, Int.neg_neg, not_true_eq_false, not_false_eq_true, Int.add_sub_cancel, ↓ite_iH, iH_t, iH_f, bH_iH, ↓bH_bind, xr_iH, ↓xr_bind, W_iH, WI_t, WI_f, gI_189, pI_189, iO_189, gR_189_0, aI_190, sI_190, gR_189_1, aI_191, sI_191, gR_189_3, aI_192, gR_189_10, aI_193, sI_193, gR_189_11, aI_194, sI_194, gR_189_13, aI_195, sI_195, gR_189_15, aI_196, sI_196, gR_189_17, aI_197, sI_197, gR_189_18, aI_198, sI_198, gR_189_19, aI_199, sI_199, gR_189_20, aI_200, sI_200, gR_189_23, aI_201, gR_189_24, aI_202, sI_202, gR_189_25, aI_203, sI_203, gR_189_29, aI_204, sI_204, gR_189_32, aI_205, sI_205, gR_189_35, aI_206, sI_206, pZ_189, gL_189, pL_189, hσ2, hnB', f_X12_ghosts_185, iH_pos, iH_neg, WI_pos, WI_neg]
    exact ⟨z2, rfl, hF⟩
end
