/-! THE LAW: its loop and its end. -/
theorem lg_cmp_z (x : Int64) : lg_cmp x x = I3 0 := lg_cmp_s x
theorem cell_ok (sc : SCR) {e : Int} (he : 0 ≤ e ∧ e < 40) (h : sc.1 ≤ 260) : ∃ v, cellF sc (I3 e) = some v := by
  have e1 : nI sc.1 = I3 (sc.1 : Int) := (Int32.ofInt_eq_ofNat (n := sc.1)).symm
  unfold cellF
  by_cases h1 : nI sc.1 ≤ I3 e
  · exact ⟨_, if_pos h1⟩
  · rw [if_neg h1]
    rw [e1, I3_le (by omega) (by omega) (by omega) (by omega)] at h1
    refine ⟨_, if_pos ⟨?_, ?_⟩⟩
    · rw [show (0 : Int32) = I3 0 from rfl, I3_le (by omega) (by omega) (by omega) (by omega)]; exact he.1
    · rw [I3_nat he.1 (by omega)]; omega
section
variable {p : Nat → Nat} {z l : Nat → Int → Int} {σ : Int → Int} {n : Int} {h : Int → Int → Int}
set_option maxHeartbeats 4000000 in
/-- with the needed tolerance all frames decode, and none deviates by more -/
theorem w_l398 (sc : SCR) {t had : Int} (hR : RX p z σ n h) (h2 : σ 2 = t) (ht : 0 ≤ t ∧ t ≤ 40) (hh : 0 ≤ had ∧ had ≤ 40) (hall : ∀ i : Nat, i < (Lσ σ 0).length → (frD σ 0 i).1 ≠ -9) {Q : Int32 × MS → Prop} (hQ : ∀ μ, Q (I3 1, μ)) : WP (f_L_law_398 sc 0 (I3 t) (I3 had) (I3 0) (M p z l)) Q := by
  have hV := RX_V hR
  have hl := len_r hV (s := 0) (by decide)
  have q2 : A_fcount σ 0 = (Lσ σ 0).length := A_fc (s := 0) (by decide)
  unfold f_L_law_398
  refine lp_W (fun m st => ∃ (i : Nat) (z' l' : Nat → Int → Int), st = (0, I3 t, I3 had, I3 i, M p z' l') ∧ i ≤ (Lσ σ 0).length ∧ m = (Lσ σ 0).length - i ∧ RX p z' σ n h) (fun m st hst => ?_) (n := (Lσ σ 0).length) ⟨0, z, l, rfl, by omega, rfl, hR⟩
  obtain ⟨i, z', l', rfl, hi, rfl, hR'⟩ := hst
  unfold f_L_law_398_b
  simp (disch := first | assumption | omega) only [↓b_hid, bH_some, ↓hid_W, W_some, I3_a, I3_s, I3_m, I3_n, I3_l, I3_lt, I3_le, I3_e, I3_dv, I3_rm, I3_mx, I3_mn, I3_ab, cI, bI_0, bI_1, rZ_b, up_same, up_row, up_col, xr_some, LQ_r, LQ_l, Int.sub_self, Int.add_zero, Int.zero_add, Int.sub_zero, Int.neg_neg, not_true_eq_false, not_false_eq_true, Int.add_sub_cancel, ↓ite_iH, iH_t, iH_f, bH_iH, ↓bH_bind, xr_iH, ↓xr_bind, W_iH, WI_t, WI_f, aR_34, aR_19, sR_19, gR_0_0, pR_0, gI_0, pI_0, iO_0, gR_0_1, gR_0_3, gR_0_4, gR_0_5, gR_0_6, gR_0_7, gR_0_8, gR_0_9, gR_0_10, gR_0_11]
  refine W_bH (W_imp (ask (x_frameCount (s := 0) (by omega)) hR') ?_)
  rintro _ ⟨z1, l1, rfl, hR1⟩
  by_cases h1 : i < (Lσ σ 0).length
  · have f2 : A_frame σ 0 i 2 = (frD σ 0 i).1 := A_fr2 (s := 0) (by decide) h1
    have hd := dev_2 hV (s := 0) (by decide) h1
    have hd : ((frD σ 0 i).1 = -9 ∧ A_dev σ 0 i = -9) ∨ ((0 ≤ (frD σ 0 i).1 ∧ (frD σ 0 i).1 < 7) ∧ 0 ≤ A_dev σ 0 i ∧ A_dev σ 0 i ≤ 10 * σ 2 ∧ A_dev σ 0 i ≤ 60000000) := hd
    have hc := hall i h1
    obtain ⟨Dv, hDv⟩ : ∃ d, A_dev σ 0 i = d := ⟨_, rfl⟩
    rw [hDv, h2] at hd
    generalize (frD σ 0 i).1 = C at *
    have hd : (0 ≤ C ∧ C < 7) ∧ 0 ≤ Dv ∧ Dv ≤ 10 * t ∧ Dv ≤ 60000000 := by
      rcases hd with hd | hd
      · exact absurd hd.1 hc
      · exact hd
    obtain ⟨d0, d1, d2, d3⟩ := hd
    generalize hNN : (Lσ σ 0).length = N at *
    simp (disch := first | assumption | omega) only [↓b_hid, bH_some, ↓hid_W, W_some, I3_a, I3_s, I3_m, I3_n, I3_l, I3_lt, I3_le, I3_e, I3_dv, I3_rm, I3_mx, I3_mn, I3_ab, cI, bI_0, bI_1, rZ_b, up_same, up_row, up_col, xr_some, LQ_r, LQ_l, Int.sub_self, Int.add_zero, Int.zero_add, Int.sub_zero, Int.neg_neg, not_true_eq_false, not_false_eq_true, Int.add_sub_cancel, ↓ite_iH, iH_t, iH_f, bH_iH, ↓bH_bind, xr_iH, ↓xr_bind, W_iH, WI_t, WI_f, aR_34, aR_19, sR_19, gR_0_0, pR_0, gI_0, pI_0, iO_0, gR_0_1, gR_0_3, gR_0_4, gR_0_5, gR_0_6, gR_0_7, gR_0_8, gR_0_9, gR_0_10, gR_0_11, q2, iH_pos, iH_neg, WI_pos, WI_neg]
    refine W_bH (W_imp (ask (x_frame (s := 0) (i := i) (w := 2) (by omega) (by omega) (by omega)) hR1) ?_)
    rintro _ ⟨z2, l2, rfl, hR2⟩
    simp (disch := first | assumption | omega) only [↓b_hid, bH_some, ↓hid_W, W_some, I3_a, I3_s, I3_m, I3_n, I3_l, I3_lt, I3_le, I3_e, I3_dv, I3_rm, I3_mx, I3_mn, I3_ab, cI, bI_0, bI_1, rZ_b, up_same, up_row, up_col, xr_some, LQ_r, LQ_l, Int.sub_self, Int.add_zero, Int.zero_add, Int.sub_zero, Int.neg_neg, not_true_eq_false, not_false_eq_true, Int.add_sub_cancel, ↓ite_iH, iH_t, iH_f, bH_iH, ↓bH_bind, xr_iH, ↓xr_bind, W_iH, WI_t, WI_f, aR_34, aR_19, sR_19, gR_0_0, pR_0, gI_0, pI_0, iO_0, gR_0_1, gR_0_3, gR_0_4, gR_0_5, gR_0_6, gR_0_7, gR_0_8, gR_0_9, gR_0_10, gR_0_11, f2, iH_pos, iH_neg, WI_pos, WI_neg]
    refine W_bH (W_imp (ask (x_deviation (s := 0) (i := i) (by omega) (by omega)) hR2) ?_)
    rintro _ ⟨z3, l3, rfl, hR3⟩
    simp (disch := first | assumption | omega) only [↓b_hid, bH_some, ↓hid_W, W_some, I3_a, I3_s, I3_m, I3_n, I3_l, I3_lt, I3_le, I3_e, I3_dv, I3_rm, I3_mx, I3_mn, I3_ab, cI, bI_0, bI_1, rZ_b, up_same, up_row, up_col, xr_some, LQ_r, LQ_l, Int.sub_self, Int.add_zero, Int.zero_add, Int.sub_zero, Int.neg_neg, not_true_eq_false, not_false_eq_true, Int.add_sub_cancel, ↓ite_iH, iH_t, iH_f, bH_iH, ↓bH_bind, xr_iH, ↓xr_bind, W_iH, WI_t, WI_f, aR_34, aR_19, sR_19, gR_0_0, pR_0, gI_0, pI_0, iO_0, gR_0_1, gR_0_3, gR_0_4, gR_0_5, gR_0_6, gR_0_7, gR_0_8, gR_0_9, gR_0_10, gR_0_11, hDv, iH_pos, iH_neg, WI_pos, WI_neg]
    exact ⟨N - (i + 1), by omega, i + 1, z3, l3, by rw [Int.natCast_add]; rfl, by omega, rfl, hR3⟩
  · generalize hNN : (Lσ σ 0).length = N at *
    simp (disch := first | assumption | omega) only [↓b_hid, bH_some, ↓hid_W, W_some, I3_a, I3_s, I3_m, I3_n, I3_l, I3_lt, I3_le, I3_e, I3_dv, I3_rm, I3_mx, I3_mn, I3_ab, cI, bI_0, bI_1, rZ_b, up_same, up_row, up_col, xr_some, LQ_r, LQ_l, Int.sub_self, Int.add_zero, Int.zero_add, Int.sub_zero, Int.neg_neg, not_true_eq_false, not_false_eq_true, Int.add_sub_cancel, ↓ite_iH, iH_t, iH_f, bH_iH, ↓bH_bind, xr_iH, ↓xr_bind, W_iH, WI_t, WI_f, aR_34, aR_19, sR_19, gR_0_0, pR_0, gI_0, pI_0, iO_0, gR_0_1, gR_0_3, gR_0_4, gR_0_5, gR_0_6, gR_0_7, gR_0_8, gR_0_9, gR_0_10, gR_0_11, q2, f_L_law_446, iH_pos, iH_neg, WI_pos, WI_neg]
    exact hQ _
set_option maxHeartbeats 4000000 in
theorem w_l378 (sc : SCR) (hR : RX p z σ n h) {Q : Int32 × MS → Prop} (hQ : ∀ μ, Q (I3 1, μ)) : WP (f_L_law_378 sc 0 (M p z l)) Q := by
  obtain ⟨hp, hV, hS, hn, hH⟩ := id hR
  have qn : A_needed σ 0 = ndT σ 0 (Lσ σ 0).length := by unfold A_needed; rw [if_pos (by decide)]; rfl
  have hr := ndT_r σ 0 (Lσ σ 0).length
  unfold f_L_law_378
  simp (disch := first | assumption | omega) only [↓b_hid, bH_some, ↓hid_W, W_some, I3_a, I3_s, I3_m, I3_n, I3_l, I3_lt, I3_le, I3_e, I3_dv, I3_rm, I3_mx, I3_mn, I3_ab, cI, bI_0, bI_1, rZ_b, up_same, up_row, up_col, xr_some, LQ_r, LQ_l, Int.sub_self, Int.add_zero, Int.zero_add, Int.sub_zero, Int.neg_neg, not_true_eq_false, not_false_eq_true, Int.add_sub_cancel, ↓ite_iH, iH_t, iH_f, bH_iH, ↓bH_bind, xr_iH, ↓xr_bind, W_iH, WI_t, WI_f, aR_34, aR_19, sR_19, gR_0_0, pR_0, gI_0, pI_0, iO_0, gR_0_1, gR_0_3, gR_0_4, gR_0_5, gR_0_6, gR_0_7, gR_0_8, gR_0_9, gR_0_10, gR_0_11]
  refine W_bH (W_imp (ask (x_needed (s := 0) (by omega)) hR) ?_)
  rintro _ ⟨z1, l1, rfl, hR1⟩
  by_cases h9 : ndT σ 0 (Lσ σ 0).length = -9
  · rw [h9] at qn
    simp (disch := first | assumption | omega) only [↓b_hid, bH_some, ↓hid_W, W_some, I3_a, I3_s, I3_m, I3_n, I3_l, I3_lt, I3_le, I3_e, I3_dv, I3_rm, I3_mx, I3_mn, I3_ab, cI, bI_0, bI_1, rZ_b, up_same, up_row, up_col, xr_some, LQ_r, LQ_l, Int.sub_self, Int.add_zero, Int.zero_add, Int.sub_zero, Int.neg_neg, not_true_eq_false, not_false_eq_true, Int.add_sub_cancel, ↓ite_iH, iH_t, iH_f, bH_iH, ↓bH_bind, xr_iH, ↓xr_bind, W_iH, WI_t, WI_f, aR_34, aR_19, sR_19, gR_0_0, pR_0, gI_0, pI_0, iO_0, gR_0_1, gR_0_3, gR_0_4, gR_0_5, gR_0_6, gR_0_7, gR_0_8, gR_0_9, gR_0_10, gR_0_11, qn, iH_pos, iH_neg, WI_pos, WI_neg]
    exact hQ _
  · have ht : 0 ≤ ndT σ 0 (Lσ σ 0).length ∧ ndT σ 0 (Lσ σ 0).length ≤ 40 := by omega
    have hall : ∀ i : Nat, i < (Lσ (uσ σ 2 (ndT σ 0 (Lσ σ 0).length)) 0).length → (frD (uσ σ 2 (ndT σ 0 (Lσ σ 0).length)) 0 i).1 ≠ -9 := fun i hi => by
      rw [Lσ_u hV (by decide)] at hi
      exact need_ok hV (by decide) rfl h9 hi
    generalize ndT σ 0 (Lσ σ 0).length = t at *
    simp (disch := first | assumption | omega) only [↓b_hid, bH_some, ↓hid_W, W_some, I3_a, I3_s, I3_m, I3_n, I3_l, I3_lt, I3_le, I3_e, I3_dv, I3_rm, I3_mx, I3_mn, I3_ab, cI, bI_0, bI_1, rZ_b, up_same, up_row, up_col, xr_some, LQ_r, LQ_l, Int.sub_self, Int.add_zero, Int.zero_add, Int.sub_zero, Int.neg_neg, not_true_eq_false, not_false_eq_true, Int.add_sub_cancel, ↓ite_iH, iH_t, iH_f, bH_iH, ↓bH_bind, xr_iH, ↓xr_bind, W_iH, WI_t, WI_f, aR_34, aR_19, sR_19, gR_0_0, pR_0, gI_0, pI_0, iO_0, gR_0_1, gR_0_3, gR_0_4, gR_0_5, gR_0_6, gR_0_7, gR_0_8, gR_0_9, gR_0_10, gR_0_11, qn, iH_pos, iH_neg, WI_pos, WI_neg]
    obtain ⟨hp1, hV1, hS1, hn1, hH1⟩ := id hR1
    refine W_bH (W_imp (x_setTolerance (v := t) (by omega) p z1 l1 σ n h hp1 hV1 hS1 hn1.1 hn1.2 hH1) ?_)
    rintro _ ⟨p2, z2, l2, rfl, hx⟩
    rcases hx with ⟨_, hX⟩ | ⟨hno, _⟩
    · obtain ⟨x1, x2, x3, x4, x5, x6⟩ := hX
      have hV2 := V_u (i := 2) (v := t) (Or.inr (Or.inr ⟨rfl, ht⟩)) hV
      have hR2 : RX p2 z2 (uσ σ 2 t) (hsN n) (hsP n h σ) := ⟨x1, hV2, x2, hsN_r hn, x3⟩
      have h2 := hV.2.2.1
      simp only [if_pos ht]
      simp (disch := first | assumption | omega) only [↓b_hid, bH_some, ↓hid_W, W_some, I3_a, I3_s, I3_m, I3_n, I3_l, I3_lt, I3_le, I3_e, I3_dv, I3_rm, I3_mx, I3_mn, I3_ab, cI, bI_0, bI_1, rZ_b, up_same, up_row, up_col, xr_some, LQ_r, LQ_l, Int.sub_self, Int.add_zero, Int.zero_add, Int.sub_zero, Int.neg_neg, not_true_eq_false, not_false_eq_true, Int.add_sub_cancel, ↓ite_iH, iH_t, iH_f, bH_iH, ↓bH_bind, xr_iH, ↓xr_bind, W_iH, WI_t, WI_f, aR_34, aR_19, sR_19, gR_0_0, pR_0, gI_0, pI_0, iO_0, gR_0_1, gR_0_3, gR_0_4, gR_0_5, gR_0_6, gR_0_7, gR_0_8, gR_0_9, gR_0_10, gR_0_11, qn]
      exact w_l398 sc hR2 (uσ_s σ 2 t) ht h2 hall hQ
    · exact absurd ht hno
set_option maxHeartbeats 4000000 in
/-- behind a call that went -/
theorem w_l79 (sc : SCR) {σ' : Int → Int} {m : Int} {h' : Int → Int → Int} (hR : RX p z σ' m h') (hm : 1 ≤ m ∧ m ≤ 6) (hl : h' (m - 1) = σ) {a : Int} (ha : 0 ≤ a ∧ a < 2147483648) {e : Int} (he : 0 ≤ e ∧ e < 40) (v : Int32) {Q : (Nat × Int32 × Int32 × MS) ⊕ (Int32 × MS) → Prop} (hQ : ∀ p' z' l' σ' n' h', RX p' z' σ' n' h' → Q (.inl (0, I3 n', I3 (e + 1), M p' z' l'))) : WP (f_L_law_79 sc 0 (I3 e) v (TL σ) (I3 a) (I3 m) (M p z l)) Q := by
  unfold f_L_law_79
  by_cases c : ((v >>> (I3 26 &&& I3 31)) &&& I3 3) = I3 0
  · simp (disch := first | assumption | omega) only [↓b_hid, bH_some, ↓hid_W, W_some, I3_a, I3_s, I3_m, I3_n, I3_l, I3_lt, I3_le, I3_e, I3_dv, I3_rm, I3_mx, I3_mn, I3_ab, cI, bI_0, bI_1, rZ_b, up_same, up_row, up_col, xr_some, LQ_r, LQ_l, Int.sub_self, Int.add_zero, Int.zero_add, Int.sub_zero, Int.neg_neg, not_true_eq_false, not_false_eq_true, Int.add_sub_cancel, ↓ite_iH, iH_t, iH_f, bH_iH, ↓bH_bind, xr_iH, ↓xr_bind, W_iH, WI_t, WI_f, aR_34, aR_19, sR_19, gR_0_0, pR_0, gI_0, pI_0, iO_0, gR_0_1, gR_0_3, gR_0_4, gR_0_5, gR_0_6, gR_0_7, gR_0_8, gR_0_9, gR_0_10, gR_0_11, iH_pos, iH_neg, WI_pos, WI_neg]
    refine W_bH (W_imp (k_undo hR (by omega)) ?_)
    rintro _ ⟨p1, z1, rfl, hR1⟩
    rw [hl] at hR1
    simp (disch := first | assumption | omega) only [↓b_hid, bH_some, ↓hid_W, W_some, I3_a, I3_s, I3_m, I3_n, I3_l, I3_lt, I3_le, I3_e, I3_dv, I3_rm, I3_mx, I3_mn, I3_ab, cI, bI_0, bI_1, rZ_b, up_same, up_row, up_col, xr_some, LQ_r, LQ_l, Int.sub_self, Int.add_zero, Int.zero_add, Int.sub_zero, Int.neg_neg, not_true_eq_false, not_false_eq_true, Int.add_sub_cancel, ↓ite_iH, iH_t, iH_f, bH_iH, ↓bH_bind, xr_iH, ↓xr_bind, W_iH, WI_t, WI_f, aR_34, aR_19, sR_19, gR_0_0, pR_0, gI_0, pI_0, iO_0, gR_0_1, gR_0_3, gR_0_4, gR_0_5, gR_0_6, gR_0_7, gR_0_8, gR_0_9, gR_0_10, gR_0_11, iH_pos, iH_neg, WI_pos, WI_neg]
    refine W_bH (W_imp (w_tale hR1) ?_)
    rintro _ ⟨z2, l2, rfl, hR2⟩
    simp (disch := first | assumption | omega) only [↓b_hid, bH_some, ↓hid_W, W_some, I3_a, I3_s, I3_m, I3_n, I3_l, I3_lt, I3_le, I3_e, I3_dv, I3_rm, I3_mx, I3_mn, I3_ab, cI, bI_0, bI_1, rZ_b, up_same, up_row, up_col, xr_some, LQ_r, LQ_l, Int.sub_self, Int.add_zero, Int.zero_add, Int.sub_zero, Int.neg_neg, not_true_eq_false, not_false_eq_true, Int.add_sub_cancel, ↓ite_iH, iH_t, iH_f, bH_iH, ↓bH_bind, xr_iH, ↓xr_bind, W_iH, WI_t, WI_f, aR_34, aR_19, sR_19, gR_0_0, pR_0, gI_0, pI_0, iO_0, gR_0_1, gR_0_3, gR_0_4, gR_0_5, gR_0_6, gR_0_7, gR_0_8, gR_0_9, gR_0_10, gR_0_11, lg_cmp_z, iH_pos, iH_neg, WI_pos, WI_neg]
    have := w_l120 (l := l2) (Q := Q) sc hR2 he v (fun z' l' hR' => hQ _ _ _ _ _ _ hR')
    rw [show m + -1 = m - 1 by omega]
    exact this
  · simp (disch := first | assumption | omega) only [↓b_hid, bH_some, ↓hid_W, W_some, I3_a, I3_s, I3_m, I3_n, I3_l, I3_lt, I3_le, I3_e, I3_dv, I3_rm, I3_mx, I3_mn, I3_ab, cI, bI_0, bI_1, rZ_b, up_same, up_row, up_col, xr_some, LQ_r, LQ_l, Int.sub_self, Int.add_zero, Int.zero_add, Int.sub_zero, Int.neg_neg, not_true_eq_false, not_false_eq_true, Int.add_sub_cancel, ↓ite_iH, iH_t, iH_f, bH_iH, ↓bH_bind, xr_iH, ↓xr_bind, W_iH, WI_t, WI_f, aR_34, aR_19, sR_19, gR_0_0, pR_0, gI_0, pI_0, iO_0, gR_0_1, gR_0_3, gR_0_4, gR_0_5, gR_0_6, gR_0_7, gR_0_8, gR_0_9, gR_0_10, gR_0_11, iH_pos, iH_neg, WI_pos, WI_neg]
    exact w_l120 sc hR he v (fun z' l' hR' => hQ _ _ _ _ _ _ hR')
set_option maxHeartbeats 4000000 in
/-- a turn of the loop -/
theorem w_turn (sc : SCR) (hsc : sc.1 ≤ 260) (hR : RX p z σ n h) {e : Int} (he : 0 ≤ e ∧ e < 40) {Q : (Nat × Int32 × Int32 × MS) ⊕ (Int32 × MS) → Prop} (hQ : ∀ p' z' l' σ' n' h', RX p' z' σ' n' h' → Q (.inl (0, I3 n', I3 (e + 1), M p' z' l'))) : WP (f_L_law_12_b sc 0 (I3 n) (I3 e) (M p z l)) Q := by
  have hn := RX_n hR
  obtain ⟨v, hv⟩ := cell_ok sc he hsc
  unfold f_L_law_12_b
  simp (disch := first | assumption | omega) only [↓b_hid, bH_some, ↓hid_W, W_some, I3_a, I3_s, I3_m, I3_n, I3_l, I3_lt, I3_le, I3_e, I3_dv, I3_rm, I3_mx, I3_mn, I3_ab, cI, bI_0, bI_1, rZ_b, up_same, up_row, up_col, xr_some, LQ_r, LQ_l, Int.sub_self, Int.add_zero, Int.zero_add, Int.sub_zero, Int.neg_neg, not_true_eq_false, not_false_eq_true, Int.add_sub_cancel, ↓ite_iH, iH_t, iH_f, bH_iH, ↓bH_bind, xr_iH, ↓xr_bind, W_iH, WI_t, WI_f, aR_34, aR_19, sR_19, gR_0_0, pR_0, gI_0, pI_0, iO_0, gR_0_1, gR_0_3, gR_0_4, gR_0_5, gR_0_6, gR_0_7, gR_0_8, gR_0_9, gR_0_10, gR_0_11, hv, iH_pos, iH_neg, WI_pos, WI_neg]
  refine W_bH (W_imp (w_tale hR) ?_)
  rintro _ ⟨z1, l1, rfl, hR1⟩
  simp (disch := first | assumption | omega) only [↓b_hid, bH_some, ↓hid_W, W_some, I3_a, I3_s, I3_m, I3_n, I3_l, I3_lt, I3_le, I3_e, I3_dv, I3_rm, I3_mx, I3_mn, I3_ab, cI, bI_0, bI_1, rZ_b, up_same, up_row, up_col, xr_some, LQ_r, LQ_l, Int.sub_self, Int.add_zero, Int.zero_add, Int.sub_zero, Int.neg_neg, not_true_eq_false, not_false_eq_true, Int.add_sub_cancel, ↓ite_iH, iH_t, iH_f, bH_iH, ↓bH_bind, xr_iH, ↓xr_bind, W_iH, WI_t, WI_f, aR_34, aR_19, sR_19, gR_0_0, pR_0, gI_0, pI_0, iO_0, gR_0_1, gR_0_3, gR_0_4, gR_0_5, gR_0_6, gR_0_7, gR_0_8, gR_0_9, gR_0_10, gR_0_11]
  refine W_bH (W_imp (w_does hR1 v) ?_)
  rintro _ ⟨p2, z2, l2, a, rfl, hd⟩
  rcases hd with ⟨a0, a1, σ', hR2⟩ | ⟨a0, a1, hR2⟩
  · have hl : (hsP n h σ) (hsN n - 1) = σ := by
      unfold hsP hsN
      by_cases h6 : n < 6
      · rw [if_pos h6, if_pos h6, if_pos (by omega)]
      · rw [if_neg h6, if_neg h6, if_pos (by omega)]
    by_cases h6 : n < 6
    · have hN : hsN n = n + 1 := by unfold hsN; rw [if_pos h6]
      have := w_l79 (l := l2) (Q := Q) sc hR2 (by omega) hl ⟨a0, a1⟩ he v hQ
      rw [hN] at this
      simp (disch := first | assumption | omega) only [↓b_hid, bH_some, ↓hid_W, W_some, I3_a, I3_s, I3_m, I3_n, I3_l, I3_lt, I3_le, I3_e, I3_dv, I3_rm, I3_mx, I3_mn, I3_ab, cI, bI_0, bI_1, rZ_b, up_same, up_row, up_col, xr_some, LQ_r, LQ_l, Int.sub_self, Int.add_zero, Int.zero_add, Int.sub_zero, Int.neg_neg, not_true_eq_false, not_false_eq_true, Int.add_sub_cancel, ↓ite_iH, iH_t, iH_f, bH_iH, ↓bH_bind, xr_iH, ↓xr_bind, W_iH, WI_t, WI_f, aR_34, aR_19, sR_19, gR_0_0, pR_0, gI_0, pI_0, iO_0, gR_0_1, gR_0_3, gR_0_4, gR_0_5, gR_0_6, gR_0_7, gR_0_8, gR_0_9, gR_0_10, gR_0_11, f_L_law_56, iH_pos, iH_neg, WI_pos, WI_neg]
      exact this
    · have hN : hsN n = 6 := by unfold hsN; rw [if_neg h6]
      have := w_l79 (l := l2) (Q := Q) sc hR2 (by omega) hl ⟨a0, a1⟩ he v hQ
      rw [hN] at this
      simp (disch := first | assumption | omega) only [↓b_hid, bH_some, ↓hid_W, W_some, I3_a, I3_s, I3_m, I3_n, I3_l, I3_lt, I3_le, I3_e, I3_dv, I3_rm, I3_mx, I3_mn, I3_ab, cI, bI_0, bI_1, rZ_b, up_same, up_row, up_col, xr_some, LQ_r, LQ_l, Int.sub_self, Int.add_zero, Int.zero_add, Int.sub_zero, Int.neg_neg, not_true_eq_false, not_false_eq_true, Int.add_sub_cancel, ↓ite_iH, iH_t, iH_f, bH_iH, ↓bH_bind, xr_iH, ↓xr_bind, W_iH, WI_t, WI_f, aR_34, aR_19, sR_19, gR_0_0, pR_0, gI_0, pI_0, iO_0, gR_0_1, gR_0_3, gR_0_4, gR_0_5, gR_0_6, gR_0_7, gR_0_8, gR_0_9, gR_0_10, gR_0_11, f_L_law_56, iH_pos, iH_neg, WI_pos, WI_neg]
      exact this
  · simp (disch := first | assumption | omega) only [↓b_hid, bH_some, ↓hid_W, W_some, I3_a, I3_s, I3_m, I3_n, I3_l, I3_lt, I3_le, I3_e, I3_dv, I3_rm, I3_mx, I3_mn, I3_ab, cI, bI_0, bI_1, rZ_b, up_same, up_row, up_col, xr_some, LQ_r, LQ_l, Int.sub_self, Int.add_zero, Int.zero_add, Int.sub_zero, Int.neg_neg, not_true_eq_false, not_false_eq_true, Int.add_sub_cancel, ↓ite_iH, iH_t, iH_f, bH_iH, ↓bH_bind, xr_iH, ↓xr_bind, W_iH, WI_t, WI_f, aR_34, aR_19, sR_19, gR_0_0, pR_0, gI_0, pI_0, iO_0, gR_0_1, gR_0_3, gR_0_4, gR_0_5, gR_0_6, gR_0_7, gR_0_8, gR_0_9, gR_0_10, gR_0_11, iH_pos, iH_neg, WI_pos, WI_neg]
    refine W_bH (W_imp (w_tale hR2) ?_)
    rintro _ ⟨z3, l3, rfl, hR3⟩
    simp (disch := first | assumption | omega) only [↓b_hid, bH_some, ↓hid_W, W_some, I3_a, I3_s, I3_m, I3_n, I3_l, I3_lt, I3_le, I3_e, I3_dv, I3_rm, I3_mx, I3_mn, I3_ab, cI, bI_0, bI_1, rZ_b, up_same, up_row, up_col, xr_some, LQ_r, LQ_l, Int.sub_self, Int.add_zero, Int.zero_add, Int.sub_zero, Int.neg_neg, not_true_eq_false, not_false_eq_true, Int.add_sub_cancel, ↓ite_iH, iH_t, iH_f, bH_iH, ↓bH_bind, xr_iH, ↓xr_bind, W_iH, WI_t, WI_f, aR_34, aR_19, sR_19, gR_0_0, pR_0, gI_0, pI_0, iO_0, gR_0_1, gR_0_3, gR_0_4, gR_0_5, gR_0_6, gR_0_7, gR_0_8, gR_0_9, gR_0_10, gR_0_11, lg_cmp_z, f_L_law_56, f_L_law_79, iH_pos, iH_neg, WI_pos, WI_neg]
    exact w_l120 sc hR3 he v (fun z' l' hR' => hQ _ _ _ _ _ _ hR')
set_option maxHeartbeats 4000000 in
theorem w_law (sc : SCR) (hsc : sc.1 ≤ 260) (hR : RX p z σ 0 h) {Q : Int32 × MS → Prop} (hQ : ∀ μ, Q (I3 1, μ)) : WP (f_L_law_8 sc 0 (M p z l)) Q := by
  unfold f_L_law_8 f_L_law_12
  refine lp_W (fun m st => ∃ (e : Nat) (n : Int) (σ : Int → Int) (h : Int → Int → Int) (p : Nat → Nat) (z l : Nat → Int → Int), st = (0, I3 n, I3 e, M p z l) ∧ e ≤ 40 ∧ m = 40 - e ∧ RX p z σ n h) (fun m st hst => ?_) (n := 40) ⟨0, 0, σ, h, p, z, l, rfl, by omega, rfl, hR⟩
  obtain ⟨e, n, σ1, h1, p1, z1, l1, rfl, he, rfl, hR1⟩ := hst
  by_cases he2 : e < 40
  · refine w_turn sc hsc hR1 (e := e) (by omega) (fun p' z' l' σ' n' h' hR' => ?_)
    rw [LQ_l]
    exact ⟨40 - (e + 1), by omega, e + 1, n', σ', h', p', z', l', by rw [Int.natCast_add]; rfl, by omega, rfl, hR'⟩
  · have hee : (e : Int) = 40 := by omega
    unfold f_L_law_12_b
    simp (disch := first | assumption | omega) only [↓b_hid, bH_some, ↓hid_W, W_some, I3_a, I3_s, I3_m, I3_n, I3_l, I3_lt, I3_le, I3_e, I3_dv, I3_rm, I3_mx, I3_mn, I3_ab, cI, bI_0, bI_1, rZ_b, up_same, up_row, up_col, xr_some, LQ_r, LQ_l, Int.sub_self, Int.add_zero, Int.zero_add, Int.sub_zero, Int.neg_neg, not_true_eq_false, not_false_eq_true, Int.add_sub_cancel, ↓ite_iH, iH_t, iH_f, bH_iH, ↓bH_bind, xr_iH, ↓xr_bind, W_iH, WI_t, WI_f, aR_34, aR_19, sR_19, gR_0_0, pR_0, gI_0, pI_0, iO_0, gR_0_1, gR_0_3, gR_0_4, gR_0_5, gR_0_6, gR_0_7, gR_0_8, gR_0_9, gR_0_10, gR_0_11, iH_pos, iH_neg, WI_pos, WI_neg]
    refine W_xr (w_l378 sc hR1 (fun μ => ?_))
    rw [LQ_r]; exact hQ μ
end
