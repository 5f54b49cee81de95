/-! The class's Decoder: codes by distance and width, short frames. -/
section
variable {p : Nat → Nat} {z l : Nat → Int → Int}
theorem pbv_r (f e : Int → Int) (tol : Int) (k : Nat) : pbv f e tol k = 0 ∨ pbv f e tol k = 1 := cif01 _
theorem g_plain {q : Nat} {e f : Int → Int} {m tol : Int} (hq : isP q) (hf : z q = f) (hP : PV f) (h2 : f 0 ≠ 2) (hD : De z e m tol) (hE : Eg e m tol) : f_X2_plainCode 40 q (M p z l) = some (I3 (pcode f e m tol), M p z l) := by
  obtain ⟨p0, p1, p2, p3, p4, p5, p6, p7⟩ := hP
  have hm := hE.1
  have hz3 : z 40 3 = m := hD.1
  have p4' : (50 ≤ f 4 ∧ f 4 ≤ 20000) ∧ (50 ≤ f 5 ∧ f 5 ≤ 20000) := by
    rcases p4 with h | h
    · exact absurd h.1 h2
    · exact h.2
  obtain ⟨⟨p4a, p4b⟩, p4c, p4d⟩ := p4'
  have core : ∀ oth pa : Int, oth = (if f 0 = 1 then 1 else 3) → pa = (if f 0 = 1 then 0 else 1) → WP (f_X2_plainCode_13 40 q (I3 oth) (M p z l)) (fun r => r = (I3 (pcode f e m tol), M p z l)) := by
    intro oth pa ho hpa
    have hop : (f 0 = 1 ∧ oth = 1 ∧ pa = 0) ∨ (f 0 ≠ 1 ∧ oth = 3 ∧ pa = 1) := by
      by_cases h1 : f 0 = 1
      · rw [if_pos h1] at ho hpa; exact Or.inl ⟨h1, ho, hpa⟩
      · rw [if_neg h1] at ho hpa; exact Or.inr ⟨h1, ho, hpa⟩
    have bad : ¬pok f e m tol → pcode f e m tol = -9 := fun h => cif_f h
    have loop : m = 2 * f 6 + oth → mt (e 0) (f 1) tol → mt (e 1) (f 2) tol → WP (f_X2_plainCode_69 40 q (I3 pa) (M p z l)) (fun r => r = (I3 (pcode f e m tol), M p z l)) := by
      intro hm2 hh hs
      unfold f_X2_plainCode_69 f_X2_plainCode_76
      refine lp_W (fun n s => ∃ i : Int, s = (40, q, I3 pa, I3 (csum f (pbv f e tol) ((i - 1 - pa) / 2).toNat), I3 i, M p z l) ∧ 2 ≤ i ∧ i ≤ m ∧ n = (m - i).toNat ∧ (∀ j, 2 ≤ j → j < i → j % 2 ≠ pa → mt (e j) (f 3) tol) ∧ (∀ k, 0 ≤ k → k < (i - 1 - pa) / 2 → mt (e (bpos f k)) (f 4) tol ∨ mt (e (bpos f k)) (f 5) tol)) (fun n s hs => ?_) ⟨2, ?_, by omega, by omega, rfl, by intro j h1 h2; omega, by intro k h1 h2; omega⟩
      · obtain ⟨i, rfl, hi0, hi1, rfl, hA, hB⟩ := hs
        have hr := csum_r f (pbv f e tol) (pbv_r f e tol) p5.2 ((i - 1 - pa) / 2).toNat (by omega)
        unfold f_X2_plainCode_76_b
        by_cases hi : i < m
        · have hD' := hD
          have hE' := hE
          by_cases hpar : i % 2 = pa
          · have hk : bpos f ((i - 2) / 2) = i := by
              unfold bpos
              rcases hop with ⟨a, b, c⟩ | ⟨a, b, c⟩
              · rw [if_pos a]; omega
              · rw [if_neg a]; omega
            have hnb : (i - 1 - pa) / 2 = (i - 2) / 2 := by omega
            have hnb2 : (i + 1 - 1 - pa) / 2 = (i - 2) / 2 + 1 := by omega
            have hsucc : ((i - 2) / 2 + 1).toNat = ((i - 2) / 2).toNat + 1 := by omega
            have hcast : ((((i - 2) / 2).toNat : Nat) : Int) = (i - 2) / 2 := by omega
            have f4 := g_fits (p := p) (l := l) hD hE (show 0 ≤ i by omega) hi (show 0 ≤ f 4 by omega) (by omega)
            have f5 := g_fits (p := p) (l := l) hD hE (show 0 ≤ i by omega) hi (show 0 ≤ f 5 by omega) (by omega)
            have hA' : ∀ j, 2 ≤ j → j < i + 1 → j % 2 ≠ pa → mt (e j) (f 3) tol := by
              intro j h1 h2 h3
              exact hA j h1 (by omega) h3
            rw [hnb] at hB hr
            rw [hnb]
            simp (disch := first | assumption | omega) only [↓b_hid, bH_some, ↓hid_W, ↓W_ite, WI_t, WI_f, W_some, I3_a, I3_s, I3_m, I3_n, I3_l, I3_lt, I3_le, I3_e, I3_dv, I3_rm, I3_mx, I3_mn, I3_ab, cI, bI_0, bI_1, rZ_b, up_same, up_row, up_col, xr_some, LQ_r, LQ_l, Int.sub_self, Int.add_zero, Int.zero_add, Int.sub_zero, Int.neg_neg, not_true_eq_false, not_false_eq_true, Int.add_sub_cancel, gI_40, pI_40, iO_40, gR_40_2, aI_41, sI_41, gR_40_5, gI_P, pI_P, iO_P, hz3, hf, f4, f5, WI_pos, WI_neg]
            refine WI_i (fun h4 => ?_) (fun h4 => ?_)
            · simp (disch := first | assumption | omega) only [↓b_hid, bH_some, ↓hid_W, ↓W_ite, WI_t, WI_f, W_some, I3_a, I3_s, I3_m, I3_n, I3_l, I3_lt, I3_le, I3_e, I3_dv, I3_rm, I3_mx, I3_mn, I3_ab, cI, bI_0, bI_1, rZ_b, up_same, up_row, up_col, xr_some, LQ_r, LQ_l, Int.sub_self, Int.add_zero, Int.zero_add, Int.sub_zero, Int.neg_neg, not_true_eq_false, not_false_eq_true, Int.add_sub_cancel, gI_P, pI_P, iO_P, gI_40, pI_40, iO_40, gR_40_2, aI_41, sI_41, gR_40_5, hf, f5]
              refine WI_i (fun h5 => ?_) (fun h5 => ?_)
              · simp (disch := first | assumption | omega) only [↓b_hid, bH_some, ↓hid_W, ↓W_ite, WI_t, WI_f, W_some, I3_a, I3_s, I3_m, I3_n, I3_l, I3_lt, I3_le, I3_e, I3_dv, I3_rm, I3_mx, I3_mn, I3_ab, cI, bI_0, bI_1, rZ_b, up_same, up_row, up_col, xr_some, LQ_r, LQ_l, Int.sub_self, Int.add_zero, Int.zero_add, Int.sub_zero, Int.neg_neg, not_true_eq_false, not_false_eq_true, Int.add_sub_cancel, f_X2_plainCode_135]
                rw [bad]
                rintro ⟨_, _, _, _, hb⟩
                rcases hb ((i - 2) / 2) (by omega) (by omega) with h | h
                · rw [hk] at h; exact h4 h
                · rw [hk] at h; exact h5 h
              · have gm := g_mask (p := p) (z := z) (l := l) (k := (i - 2) / 2) hq (by omega) (by rw [hf]; omega) (by rw [hf]; omega) (by rw [hf]; omega)
                rw [hf] at gm
                have hbt := csum_bt f (pbv f e tol) (pbv_r f e tol) p5.2 ((i - 2) / 2).toNat ((i - 2) / 2).toNat (Nat.le_refl _) (by omega)
                rw [hcast] at hbt
                have hor := or_pw hr.1 hbt
                simp (disch := first | assumption | omega) only [↓b_hid, bH_some, ↓hid_W, ↓W_ite, WI_t, WI_f, W_some, I3_a, I3_s, I3_m, I3_n, I3_l, I3_lt, I3_le, I3_e, I3_dv, I3_rm, I3_mx, I3_mn, I3_ab, cI, bI_0, bI_1, rZ_b, up_same, up_row, up_col, xr_some, LQ_r, LQ_l, Int.sub_self, Int.add_zero, Int.zero_add, Int.sub_zero, Int.neg_neg, not_true_eq_false, not_false_eq_true, Int.add_sub_cancel, gI_P, pI_P, iO_P, gm, hor, f_X2_plainCode_153]
                refine ⟨_, ?_, i + 1, ?_, by omega, by omega, rfl, hA', ?_⟩
                · omega
                · rw [hnb2, hsucc, csum, hcast]
                  have : pbv f e tol ((i - 2) / 2) = 1 := by unfold pbv; rw [hk]; exact cif_f h4
                  rw [this, Int.one_mul]
                · intro k h6 h7
                  by_cases h8 : k = (i - 2) / 2
                  · subst h8; rw [hk]; exact Or.inr (Classical.byContradiction h5)
                  · exact hB k h6 (by omega)
            · simp (disch := first | assumption | omega) only [↓b_hid, bH_some, ↓hid_W, ↓W_ite, WI_t, WI_f, W_some, I3_a, I3_s, I3_m, I3_n, I3_l, I3_lt, I3_le, I3_e, I3_dv, I3_rm, I3_mx, I3_mn, I3_ab, cI, bI_0, bI_1, rZ_b, up_same, up_row, up_col, xr_some, LQ_r, LQ_l, Int.sub_self, Int.add_zero, Int.zero_add, Int.sub_zero, Int.neg_neg, not_true_eq_false, not_false_eq_true, Int.add_sub_cancel, f_X2_plainCode_153]
              have h4' : mt (e i) (f 4) tol := Classical.byContradiction h4
              refine ⟨_, ?_, i + 1, ?_, by omega, by omega, rfl, hA', ?_⟩
              · omega
              · rw [hnb2, hsucc, csum, hcast]
                have : pbv f e tol ((i - 2) / 2) = 0 := by unfold pbv; rw [hk]; exact cif_t h4'
                rw [this, Int.zero_mul, Int.add_zero]
              · intro k h6 h7
                by_cases h8 : k = (i - 2) / 2
                · subst h8; rw [hk]; exact Or.inl h4'
                · exact hB k h6 (by omega)
          · have f3 := g_fits (p := p) (l := l) hD hE (show 0 ≤ i by omega) hi (show 0 ≤ f 3 by omega) (by omega)
            have hnb2 : (i + 1 - 1 - pa) / 2 = (i - 1 - pa) / 2 := by omega
            simp (disch := first | assumption | omega) only [↓b_hid, bH_some, ↓hid_W, ↓W_ite, WI_t, WI_f, W_some, I3_a, I3_s, I3_m, I3_n, I3_l, I3_lt, I3_le, I3_e, I3_dv, I3_rm, I3_mx, I3_mn, I3_ab, cI, bI_0, bI_1, rZ_b, up_same, up_row, up_col, xr_some, LQ_r, LQ_l, Int.sub_self, Int.add_zero, Int.zero_add, Int.sub_zero, Int.neg_neg, not_true_eq_false, not_false_eq_true, Int.add_sub_cancel, gI_40, pI_40, iO_40, gR_40_2, aI_41, sI_41, gR_40_5, gI_P, pI_P, iO_P, hz3, hf, f3, WI_pos, WI_neg]
            refine WI_i (fun h4 => ?_) (fun h4 => ?_)
            · simp (disch := first | assumption | omega) only [↓b_hid, bH_some, ↓hid_W, ↓W_ite, WI_t, WI_f, W_some, I3_a, I3_s, I3_m, I3_n, I3_l, I3_lt, I3_le, I3_e, I3_dv, I3_rm, I3_mx, I3_mn, I3_ab, cI, bI_0, bI_1, rZ_b, up_same, up_row, up_col, xr_some, LQ_r, LQ_l, Int.sub_self, Int.add_zero, Int.zero_add, Int.sub_zero, Int.neg_neg, not_true_eq_false, not_false_eq_true, Int.add_sub_cancel, f_X2_plainCode_106]
              rw [bad]
              rintro ⟨_, _, _, ha, _⟩
              exact h4 (ha i hi0 hi (by rw [← hpa]; exact hpar))
            · simp (disch := first | assumption | omega) only [↓b_hid, bH_some, ↓hid_W, ↓W_ite, WI_t, WI_f, W_some, I3_a, I3_s, I3_m, I3_n, I3_l, I3_lt, I3_le, I3_e, I3_dv, I3_rm, I3_mx, I3_mn, I3_ab, cI, bI_0, bI_1, rZ_b, up_same, up_row, up_col, xr_some, LQ_r, LQ_l, Int.sub_self, Int.add_zero, Int.zero_add, Int.sub_zero, Int.neg_neg, not_true_eq_false, not_false_eq_true, Int.add_sub_cancel, f_X2_plainCode_153]
              have h4' : mt (e i) (f 3) tol := Classical.byContradiction h4
              refine ⟨_, ?_, i + 1, ?_, by omega, by omega, rfl, ?_, ?_⟩
              · omega
              · rw [hnb2]
              · intro j h6 h7 h8
                by_cases h9 : j = i
                · subst h9; exact h4'
                · exact hA j h6 (by omega) h8
              · rw [hnb2]; exact hB
        · have hi : i = m := by omega
          subst hi
          simp (disch := first | assumption | omega) only [↓b_hid, bH_some, ↓hid_W, ↓W_ite, WI_t, WI_f, W_some, I3_a, I3_s, I3_m, I3_n, I3_l, I3_lt, I3_le, I3_e, I3_dv, I3_rm, I3_mx, I3_mn, I3_ab, cI, bI_0, bI_1, rZ_b, up_same, up_row, up_col, xr_some, LQ_r, LQ_l, Int.sub_self, Int.add_zero, Int.zero_add, Int.sub_zero, Int.neg_neg, not_true_eq_false, not_false_eq_true, Int.add_sub_cancel, gI_40, pI_40, iO_40, gR_40_2, aI_41, sI_41, gR_40_5, hz3, f_X2_plainCode_159, WI_pos, WI_neg]
          have hk6 : (i - 1 - pa) / 2 = f 6 := by omega
          have hok : pok f e i tol := by
            refine ⟨by rw [hm2, ho], hh, hs, ?_, ?_⟩
            · intro j h6 h7 h8; rw [← hpa] at h8; exact hA j h6 h7 h8
            · rw [← hk6]; exact hB
          rw [show pcode f e i tol = csum f (pbv f e tol) (f 6).toNat from cif_t hok, hk6]
      · have : (((2 : Int) - 1 - pa) / 2).toNat = 0 := by omega
        rw [this]; rfl
    unfold f_X2_plainCode_13
    simp (disch := first | assumption | omega) only [↓b_hid, bH_some, ↓hid_W, ↓W_ite, WI_t, WI_f, W_some, I3_a, I3_s, I3_m, I3_n, I3_l, I3_lt, I3_le, I3_e, I3_dv, I3_rm, I3_mx, I3_mn, I3_ab, cI, bI_0, bI_1, rZ_b, up_same, up_row, up_col, xr_some, LQ_r, LQ_l, Int.sub_self, Int.add_zero, Int.zero_add, Int.sub_zero, Int.neg_neg, not_true_eq_false, not_false_eq_true, Int.add_sub_cancel, gI_P, pI_P, iO_P, gI_40, pI_40, iO_40, gR_40_2, aI_41, sI_41, gR_40_5, hf, hz3]
    refine WI_i (fun h3 => ?_) (fun h3 => ?_)
    · have f1 := g_fits (p := p) (l := l) hD hE (show (0 : Int) ≤ 0 by omega) (by omega) (show 0 ≤ f 1 by omega) (by omega)
      have f2 := g_fits (p := p) (l := l) hD hE (show (0 : Int) ≤ 1 by omega) (by omega) (show 0 ≤ f 2 by omega) (by omega)
      simp (disch := first | assumption | omega) only [↓b_hid, bH_some, ↓hid_W, ↓W_ite, WI_t, WI_f, W_some, I3_a, I3_s, I3_m, I3_n, I3_l, I3_lt, I3_le, I3_e, I3_dv, I3_rm, I3_mx, I3_mn, I3_ab, cI, bI_0, bI_1, rZ_b, up_same, up_row, up_col, xr_some, LQ_r, LQ_l, Int.sub_self, Int.add_zero, Int.zero_add, Int.sub_zero, Int.neg_neg, not_true_eq_false, not_false_eq_true, Int.add_sub_cancel, gI_P, pI_P, iO_P, gI_40, pI_40, iO_40, gR_40_2, aI_41, sI_41, gR_40_5, hf, f1]
      refine WI_i (fun h4 => ?_) (fun h4 => ?_)
      · simp (disch := first | assumption | omega) only [↓b_hid, bH_some, ↓hid_W, ↓W_ite, WI_t, WI_f, W_some, I3_a, I3_s, I3_m, I3_n, I3_l, I3_lt, I3_le, I3_e, I3_dv, I3_rm, I3_mx, I3_mn, I3_ab, cI, bI_0, bI_1, rZ_b, up_same, up_row, up_col, xr_some, LQ_r, LQ_l, Int.sub_self, Int.add_zero, Int.zero_add, Int.sub_zero, Int.neg_neg, not_true_eq_false, not_false_eq_true, Int.add_sub_cancel]; rw [bad]; rintro ⟨_, h, _⟩; exact h4 h
      · simp (disch := first | assumption | omega) only [↓b_hid, bH_some, ↓hid_W, ↓W_ite, WI_t, WI_f, W_some, I3_a, I3_s, I3_m, I3_n, I3_l, I3_lt, I3_le, I3_e, I3_dv, I3_rm, I3_mx, I3_mn, I3_ab, cI, bI_0, bI_1, rZ_b, up_same, up_row, up_col, xr_some, LQ_r, LQ_l, Int.sub_self, Int.add_zero, Int.zero_add, Int.sub_zero, Int.neg_neg, not_true_eq_false, not_false_eq_true, Int.add_sub_cancel, gI_P, pI_P, iO_P, gI_40, pI_40, iO_40, gR_40_2, aI_41, sI_41, gR_40_5, hf, f2]
        refine WI_i (fun h5 => ?_) (fun h5 => ?_)
        · simp (disch := first | assumption | omega) only [↓b_hid, bH_some, ↓hid_W, ↓W_ite, WI_t, WI_f, W_some, I3_a, I3_s, I3_m, I3_n, I3_l, I3_lt, I3_le, I3_e, I3_dv, I3_rm, I3_mx, I3_mn, I3_ab, cI, bI_0, bI_1, rZ_b, up_same, up_row, up_col, xr_some, LQ_r, LQ_l, Int.sub_self, Int.add_zero, Int.zero_add, Int.sub_zero, Int.neg_neg, not_true_eq_false, not_false_eq_true, Int.add_sub_cancel]; rw [bad]; rintro ⟨_, _, h, _⟩; exact h5 h
        · simp (disch := first | assumption | omega) only [↓b_hid, bH_some, ↓hid_W, ↓W_ite, WI_t, WI_f, W_some, I3_a, I3_s, I3_m, I3_n, I3_l, I3_lt, I3_le, I3_e, I3_dv, I3_rm, I3_mx, I3_mn, I3_ab, cI, bI_0, bI_1, rZ_b, up_same, up_row, up_col, xr_some, LQ_r, LQ_l, Int.sub_self, Int.add_zero, Int.zero_add, Int.sub_zero, Int.neg_neg, not_true_eq_false, not_false_eq_true, Int.add_sub_cancel, gI_P, pI_P, iO_P, gI_40, pI_40, iO_40, gR_40_2, aI_41, sI_41, gR_40_5, hf]
          have hl := loop h3 (Classical.byContradiction h4) (Classical.byContradiction h5)
          rcases hop with ⟨a, b, c⟩ | ⟨a, b, c⟩
          · simp (disch := first | assumption | omega) only [↓b_hid, bH_some, ↓hid_W, ↓W_ite, WI_t, WI_f, W_some, I3_a, I3_s, I3_m, I3_n, I3_l, I3_lt, I3_le, I3_e, I3_dv, I3_rm, I3_mx, I3_mn, I3_ab, cI, bI_0, bI_1, rZ_b, up_same, up_row, up_col, xr_some, LQ_r, LQ_l, Int.sub_self, Int.add_zero, Int.zero_add, Int.sub_zero, Int.neg_neg, not_true_eq_false, not_false_eq_true, Int.add_sub_cancel, WI_pos, WI_neg]; rw [c] at hl; exact hl
          · simp (disch := first | assumption | omega) only [↓b_hid, bH_some, ↓hid_W, ↓W_ite, WI_t, WI_f, W_some, I3_a, I3_s, I3_m, I3_n, I3_l, I3_lt, I3_le, I3_e, I3_dv, I3_rm, I3_mx, I3_mn, I3_ab, cI, bI_0, bI_1, rZ_b, up_same, up_row, up_col, xr_some, LQ_r, LQ_l, Int.sub_self, Int.add_zero, Int.zero_add, Int.sub_zero, Int.neg_neg, not_true_eq_false, not_false_eq_true, Int.add_sub_cancel, WI_pos, WI_neg]; rw [c] at hl; exact hl
    · simp (disch := first | assumption | omega) only [↓b_hid, bH_some, ↓hid_W, ↓W_ite, WI_t, WI_f, W_some, I3_a, I3_s, I3_m, I3_n, I3_l, I3_lt, I3_le, I3_e, I3_dv, I3_rm, I3_mx, I3_mn, I3_ab, cI, bI_0, bI_1, rZ_b, up_same, up_row, up_col, xr_some, LQ_r, LQ_l, Int.sub_self, Int.add_zero, Int.zero_add, Int.sub_zero, Int.neg_neg, not_true_eq_false, not_false_eq_true, Int.add_sub_cancel]; rw [bad]; rintro ⟨h, _⟩; rw [← ho] at h; exact h3 h
  apply W_eq; unfold f_X2_plainCode; simp (disch := first | assumption | omega) only [↓b_hid, bH_some, ↓hid_W, ↓W_ite, WI_t, WI_f, W_some, I3_a, I3_s, I3_m, I3_n, I3_l, I3_lt, I3_le, I3_e, I3_dv, I3_rm, I3_mx, I3_mn, I3_ab, cI, bI_0, bI_1, rZ_b, up_same, up_row, up_col, xr_some, LQ_r, LQ_l, Int.sub_self, Int.add_zero, Int.zero_add, Int.sub_zero, Int.neg_neg, not_true_eq_false, not_false_eq_true, Int.add_sub_cancel, gI_P, pI_P, iO_P, hf]
  refine WI_i (fun h => ?_) (fun h => ?_)
  · simp (disch := first | assumption | omega) only [↓b_hid, bH_some, ↓hid_W, ↓W_ite, WI_t, WI_f, W_some, I3_a, I3_s, I3_m, I3_n, I3_l, I3_lt, I3_le, I3_e, I3_dv, I3_rm, I3_mx, I3_mn, I3_ab, cI, bI_0, bI_1, rZ_b, up_same, up_row, up_col, xr_some, LQ_r, LQ_l, Int.sub_self, Int.add_zero, Int.zero_add, Int.sub_zero, Int.neg_neg, not_true_eq_false, not_false_eq_true, Int.add_sub_cancel]; exact core 1 0 (by rw [if_pos h]) (by rw [if_pos h])
  · simp (disch := first | assumption | omega) only [↓b_hid, bH_some, ↓hid_W, ↓W_ite, WI_t, WI_f, W_some, I3_a, I3_s, I3_m, I3_n, I3_l, I3_lt, I3_le, I3_e, I3_dv, I3_rm, I3_mx, I3_mn, I3_ab, cI, bI_0, bI_1, rZ_b, up_same, up_row, up_col, xr_some, LQ_r, LQ_l, Int.sub_self, Int.add_zero, Int.zero_add, Int.sub_zero, Int.neg_neg, not_true_eq_false, not_false_eq_true, Int.add_sub_cancel]; exact core 3 1 (by rw [if_neg h]) (by rw [if_neg h])
theorem cif_q (c : Prop) (a b : Int) : (c ∧ cif c a b = a) ∨ (¬c ∧ cif c a b = b) := by
  by_cases h : c
  · exact Or.inl ⟨h, cif_t h⟩
  · exact Or.inr ⟨h, cif_f h⟩
/-- the table's protocols -/
def TbP (z : Nat → Int → Int) (t : Nat) (n : Nat) (F : Nat → Int → Int) : Prop := z t 1 = n ∧ n ≤ 6 ∧ ∀ q, q < n → z (t + 4 + q) = F q ∧ PV (F q)
theorem dec2_r (F : Nat → Int → Int) (e : Int → Int) (m tol : Int) : ∀ n q, dec2 F e m tol n q = -9 ∨ (q : Int) ≤ dec2 F e m tol n q ∧ dec2 F e m tol n q < q + n
  | 0, q => Or.inl rfl
  | n + 1, q => by
    unfold dec2
    rcases cif_q (xshort (F q) e m tol) q (dec2 F e m tol n (q + 1)) with ⟨_, h⟩ | ⟨_, h⟩
    · rw [h]; omega
    · rw [h]
      rcases dec2_r F e m tol n (q + 1) with h2 | h2
      · exact Or.inl h2
      · omega
theorem g_short {t n : Nat} {F : Nat → Int → Int} {e : Int → Int} {m tol : Int} (ht : isTb t) (hT : TbP z t n F) (hD : De z e m tol) (hE : Eg e m tol) : f_X2_protocolOfShortFrame 40 t (M p z l) = some (I3 (dec2 F e m tol n 0), M p z l) := by
  obtain ⟨t1, t2, t3⟩ := hT
  have hm := hE.1
  have hz3 : z 40 3 = m := hD.1
  apply W_eq
  unfold f_X2_protocolOfShortFrame f_X2_protocolOfShortFrame_2
  refine lp_W (fun k s => ∃ q : Nat, s = (40, t, I3 q, M p z l) ∧ q + k = n ∧ dec2 F e m tol n 0 = dec2 F e m tol k q) (fun k s hs => ?_) ⟨0, rfl, by omega, rfl⟩
  obtain ⟨q, rfl, hk, hd⟩ := hs
  unfold f_X2_protocolOfShortFrame_2_b
  by_cases hq : q < n
  · obtain ⟨k, rfl⟩ : ∃ k', k = k' + 1 := ⟨k - 1, by omega⟩
    obtain ⟨hf, p0, p1, p2, p3, p4, p5, p6, p7⟩ := t3 q hq
    have hP : isP (t + 4 + q) := isP_T ht (by omega)
    have e4 : (q : Int).toNat = q := Int.toNat_natCast q
    have hd : dec2 F e m tol n 0 = cif (xshort (F q) e m tol) q (dec2 F e m tol k (q + 1)) := hd
    have nxt : ¬xshort (F q) e m tol → WP (f_X2_protocolOfShortFrame_72 40 t (I3 q) (M p z l)) (LQ (fun r => r = (I3 (dec2 F e m tol n 0), M p z l)) (fun k s => ∃ q : Nat, s = (40, t, I3 q, M p z l) ∧ q + k = n ∧ dec2 F e m tol n 0 = dec2 F e m tol k q) (k + 1)) := by
      intro hx
      rw [cif_f hx] at hd
      unfold f_X2_protocolOfShortFrame_72
      simp (disch := first | assumption | omega) only [↓b_hid, bH_some, ↓hid_W, ↓W_ite, WI_t, WI_f, W_some, I3_a, I3_s, I3_m, I3_n, I3_l, I3_lt, I3_le, I3_e, I3_dv, I3_rm, I3_mx, I3_mn, I3_ab, cI, bI_0, bI_1, rZ_b, up_same, up_row, up_col, xr_some, LQ_r, LQ_l, Int.sub_self, Int.add_zero, Int.zero_add, Int.sub_zero, Int.neg_neg, not_true_eq_false, not_false_eq_true, Int.add_sub_cancel]
      exact ⟨k, by omega, q + 1, by rw [Int.natCast_add]; rfl, by omega, hd⟩
    simp (disch := first | assumption | omega) only [↓b_hid, bH_some, ↓hid_W, ↓W_ite, WI_t, WI_f, W_some, I3_a, I3_s, I3_m, I3_n, I3_l, I3_lt, I3_le, I3_e, I3_dv, I3_rm, I3_mx, I3_mn, I3_ab, cI, bI_0, bI_1, rZ_b, up_same, up_row, up_col, xr_some, LQ_r, LQ_l, Int.sub_self, Int.add_zero, Int.zero_add, Int.sub_zero, Int.neg_neg, not_true_eq_false, not_false_eq_true, Int.add_sub_cancel, gI_Tb, pI_Tb, iO_Tb, gR_Tb0, gR_Tb2, gR_Tb3, aR_Tb, aI_Tb2, aI_Tb3, sI_Tb2, sI_Tb3, cpI_Tb2, cpI_Tb3, t1, g_pAt, e4, WI_pos, WI_neg]
    simp (disch := first | assumption | omega) only [↓b_hid, bH_some, ↓hid_W, ↓W_ite, WI_t, WI_f, W_some, I3_a, I3_s, I3_m, I3_n, I3_l, I3_lt, I3_le, I3_e, I3_dv, I3_rm, I3_mx, I3_mn, I3_ab, cI, bI_0, bI_1, rZ_b, up_same, up_row, up_col, xr_some, LQ_r, LQ_l, Int.sub_self, Int.add_zero, Int.zero_add, Int.sub_zero, Int.neg_neg, not_true_eq_false, not_false_eq_true, Int.add_sub_cancel, gI_P, pI_P, iO_P, hf]
    refine WI_i (fun h8 => ?_) (fun h8 => ?_)
    · simp (disch := first | assumption | omega) only [↓b_hid, bH_some, ↓hid_W, ↓W_ite, WI_t, WI_f, W_some, I3_a, I3_s, I3_m, I3_n, I3_l, I3_lt, I3_le, I3_e, I3_dv, I3_rm, I3_mx, I3_mn, I3_ab, cI, bI_0, bI_1, rZ_b, up_same, up_row, up_col, xr_some, LQ_r, LQ_l, Int.sub_self, Int.add_zero, Int.zero_add, Int.sub_zero, Int.neg_neg, not_true_eq_false, not_false_eq_true, Int.add_sub_cancel, gI_P, pI_P, iO_P, gI_40, pI_40, iO_40, gR_40_2, aI_41, sI_41, gR_40_5, hz3]
      refine WI_i (fun h3 => ?_) (fun h3 => ?_)
      · have f1 := g_fits (p := p) (l := l) hD hE (show (0 : Int) ≤ 0 by omega) (by omega) (show 0 ≤ F q 1 by omega) (by omega)
        have f2 := g_fits (p := p) (l := l) hD hE (show (0 : Int) ≤ 1 by omega) (by omega) (show 0 ≤ F q 2 / 2 by omega) (by omega)
        have f3 := g_fits (p := p) (l := l) hD hE (show (0 : Int) ≤ 2 by omega) (by omega) (show 0 ≤ F q 3 by omega) (by omega)
        simp (disch := first | assumption | omega) only [↓b_hid, bH_some, ↓hid_W, ↓W_ite, WI_t, WI_f, W_some, I3_a, I3_s, I3_m, I3_n, I3_l, I3_lt, I3_le, I3_e, I3_dv, I3_rm, I3_mx, I3_mn, I3_ab, cI, bI_0, bI_1, rZ_b, up_same, up_row, up_col, xr_some, LQ_r, LQ_l, Int.sub_self, Int.add_zero, Int.zero_add, Int.sub_zero, Int.neg_neg, not_true_eq_false, not_false_eq_true, Int.add_sub_cancel, gI_P, pI_P, iO_P, gI_40, pI_40, iO_40, gR_40_2, aI_41, sI_41, gR_40_5, hf, f1]
        refine WI_i (fun h4 => ?_) (fun h4 => ?_)
        · simp (disch := first | assumption | omega) only [↓b_hid, bH_some, ↓hid_W, ↓W_ite, WI_t, WI_f, W_some, I3_a, I3_s, I3_m, I3_n, I3_l, I3_lt, I3_le, I3_e, I3_dv, I3_rm, I3_mx, I3_mn, I3_ab, cI, bI_0, bI_1, rZ_b, up_same, up_row, up_col, xr_some, LQ_r, LQ_l, Int.sub_self, Int.add_zero, Int.zero_add, Int.sub_zero, Int.neg_neg, not_true_eq_false, not_false_eq_true, Int.add_sub_cancel]; exact nxt (fun h => h4 h.2.2.1)
        · simp (disch := first | assumption | omega) only [↓b_hid, bH_some, ↓hid_W, ↓W_ite, WI_t, WI_f, W_some, I3_a, I3_s, I3_m, I3_n, I3_l, I3_lt, I3_le, I3_e, I3_dv, I3_rm, I3_mx, I3_mn, I3_ab, cI, bI_0, bI_1, rZ_b, up_same, up_row, up_col, xr_some, LQ_r, LQ_l, Int.sub_self, Int.add_zero, Int.zero_add, Int.sub_zero, Int.neg_neg, not_true_eq_false, not_false_eq_true, Int.add_sub_cancel, gI_P, pI_P, iO_P, gI_40, pI_40, iO_40, gR_40_2, aI_41, sI_41, gR_40_5, hf, f2]
          refine WI_i (fun h5 => ?_) (fun h5 => ?_)
          · simp (disch := first | assumption | omega) only [↓b_hid, bH_some, ↓hid_W, ↓W_ite, WI_t, WI_f, W_some, I3_a, I3_s, I3_m, I3_n, I3_l, I3_lt, I3_le, I3_e, I3_dv, I3_rm, I3_mx, I3_mn, I3_ab, cI, bI_0, bI_1, rZ_b, up_same, up_row, up_col, xr_some, LQ_r, LQ_l, Int.sub_self, Int.add_zero, Int.zero_add, Int.sub_zero, Int.neg_neg, not_true_eq_false, not_false_eq_true, Int.add_sub_cancel]; exact nxt (fun h => h5 h.2.2.2.1)
          · simp (disch := first | assumption | omega) only [↓b_hid, bH_some, ↓hid_W, ↓W_ite, WI_t, WI_f, W_some, I3_a, I3_s, I3_m, I3_n, I3_l, I3_lt, I3_le, I3_e, I3_dv, I3_rm, I3_mx, I3_mn, I3_ab, cI, bI_0, bI_1, rZ_b, up_same, up_row, up_col, xr_some, LQ_r, LQ_l, Int.sub_self, Int.add_zero, Int.zero_add, Int.sub_zero, Int.neg_neg, not_true_eq_false, not_false_eq_true, Int.add_sub_cancel, gI_P, pI_P, iO_P, gI_40, pI_40, iO_40, gR_40_2, aI_41, sI_41, gR_40_5, hf, f3]
            refine WI_i (fun h6 => ?_) (fun h6 => ?_)
            · simp (disch := first | assumption | omega) only [↓b_hid, bH_some, ↓hid_W, ↓W_ite, WI_t, WI_f, W_some, I3_a, I3_s, I3_m, I3_n, I3_l, I3_lt, I3_le, I3_e, I3_dv, I3_rm, I3_mx, I3_mn, I3_ab, cI, bI_0, bI_1, rZ_b, up_same, up_row, up_col, xr_some, LQ_r, LQ_l, Int.sub_self, Int.add_zero, Int.zero_add, Int.sub_zero, Int.neg_neg, not_true_eq_false, not_false_eq_true, Int.add_sub_cancel]; exact nxt (fun h => h6 h.2.2.2.2)
            · have hx : xshort (F q) e m tol := ⟨h8, h3, Classical.byContradiction h4, Classical.byContradiction h5, Classical.byContradiction h6⟩
              rw [cif_t hx] at hd
              simp (disch := first | assumption | omega) only [↓b_hid, bH_some, ↓hid_W, ↓W_ite, WI_t, WI_f, W_some, I3_a, I3_s, I3_m, I3_n, I3_l, I3_lt, I3_le, I3_e, I3_dv, I3_rm, I3_mx, I3_mn, I3_ab, cI, bI_0, bI_1, rZ_b, up_same, up_row, up_col, xr_some, LQ_r, LQ_l, Int.sub_self, Int.add_zero, Int.zero_add, Int.sub_zero, Int.neg_neg, not_true_eq_false, not_false_eq_true, Int.add_sub_cancel, f_X2_protocolOfShortFrame_70]
              rw [hd]
      · simp (disch := first | assumption | omega) only [↓b_hid, bH_some, ↓hid_W, ↓W_ite, WI_t, WI_f, W_some, I3_a, I3_s, I3_m, I3_n, I3_l, I3_lt, I3_le, I3_e, I3_dv, I3_rm, I3_mx, I3_mn, I3_ab, cI, bI_0, bI_1, rZ_b, up_same, up_row, up_col, xr_some, LQ_r, LQ_l, Int.sub_self, Int.add_zero, Int.zero_add, Int.sub_zero, Int.neg_neg, not_true_eq_false, not_false_eq_true, Int.add_sub_cancel]; exact nxt (fun h => h3 h.2.1)
    · simp (disch := first | assumption | omega) only [↓b_hid, bH_some, ↓hid_W, ↓W_ite, WI_t, WI_f, W_some, I3_a, I3_s, I3_m, I3_n, I3_l, I3_lt, I3_le, I3_e, I3_dv, I3_rm, I3_mx, I3_mn, I3_ab, cI, bI_0, bI_1, rZ_b, up_same, up_row, up_col, xr_some, LQ_r, LQ_l, Int.sub_self, Int.add_zero, Int.zero_add, Int.sub_zero, Int.neg_neg, not_true_eq_false, not_false_eq_true, Int.add_sub_cancel]; exact nxt (fun h => h8 h.1)
  · have : k = 0 := by omega
    subst this
    simp (disch := first | assumption | omega) only [↓b_hid, bH_some, ↓hid_W, ↓W_ite, WI_t, WI_f, W_some, I3_a, I3_s, I3_m, I3_n, I3_l, I3_lt, I3_le, I3_e, I3_dv, I3_rm, I3_mx, I3_mn, I3_ab, cI, bI_0, bI_1, rZ_b, up_same, up_row, up_col, xr_some, LQ_r, LQ_l, Int.sub_self, Int.add_zero, Int.zero_add, Int.sub_zero, Int.neg_neg, not_true_eq_false, not_false_eq_true, Int.add_sub_cancel, gI_Tb, pI_Tb, iO_Tb, gR_Tb0, gR_Tb2, gR_Tb3, aR_Tb, aI_Tb2, aI_Tb3, sI_Tb2, sI_Tb3, cpI_Tb2, cpI_Tb3, t1, f_X2_protocolOfShortFrame_78, WI_pos, WI_neg]
    rw [hd]; rfl
end
