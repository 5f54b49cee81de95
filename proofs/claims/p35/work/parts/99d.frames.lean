/-! THE LAW: what it asks of frames and presses. -/
theorem lg_cmp_s (x : Int64) : lg_cmp x x = 0 := by
  unfold lg_cmp
  rw [if_neg (by intro h; exact absurd h Int64.lt_irrefl), if_pos rfl]
section
variable {σ : Int → Int}
theorem A_fr0 {s i : Nat} (hs : s < 3) (hi : i < (Lσ σ s).length) : A_frame σ s i 0 = (gl (Lσ σ s) i).1 := by
  unfold A_frame
  rw [if_pos (by omega), if_pos (by omega), if_pos (by omega), Int.toNat_natCast, Int.toNat_natCast, if_pos (by omega), if_pos rfl]
theorem A_fr1 {s i : Nat} (hs : s < 3) (hi : i < (Lσ σ s).length) : A_frame σ s i 1 = (gl (Lσ σ s) i).2 := by
  unfold A_frame
  rw [if_pos (by omega), if_pos (by omega), if_pos (by omega), Int.toNat_natCast, Int.toNat_natCast, if_pos (by omega), if_neg (by decide), if_pos rfl]
theorem A_fr2 {s i : Nat} (hs : s < 3) (hi : i < (Lσ σ s).length) : A_frame σ s i 2 = (frD σ s i).1 := by
  unfold A_frame
  rw [if_pos (by omega), if_pos (by omega), if_pos (by omega), Int.toNat_natCast, Int.toNat_natCast, if_pos (by omega), if_neg (by decide), if_neg (by decide), if_pos rfl]
theorem A_fc {s : Nat} (hs : s < 3) : A_fcount σ s = (Lσ σ s).length := by unfold A_fcount; rw [if_pos (by omega), Int.toNat_natCast]
theorem A_pc {s : Nat} (hs : s < 3) : A_pcount σ s = (pT σ s).1.2.2.2.2.1 := by unfold A_pcount; rw [if_pos (by omega), Int.toNat_natCast]; rfl
theorem A_sc {s : Nat} (hs : s < 3) : A_stray σ s = (pT σ s).1.2.2.2.2.2 := by unfold A_stray; rw [if_pos (by omega), Int.toNat_natCast]; rfl
theorem A_p2 {s k : Nat} (hs : s < 3) (hk : (k : Int) < (pT σ s).1.2.2.2.2.1) : A_press σ s k 2 = (pT σ s).2.2.2 k := by
  unfold A_press
  rw [if_pos (by omega), if_pos (by omega), if_pos (by omega), Int.toNat_natCast, if_pos hk, if_neg (by decide), if_neg (by decide), if_pos rfl]
theorem len_r (hV : V σ) {s : Nat} (hs : s < 3) : (Lσ σ s).length ≤ 100 := by
  have ht := (σ_tr hV hs).1
  exact FS_len ht.1 ht.2
/-- a frame has a deviation just where it decodes -/
theorem dev_2 (hV : V σ) {s i : Nat} (hs : s < 3) (hi : i < (Lσ σ s).length) : ((frD σ s i).1 = -9 ∧ A_dev σ s i = -9) ∨ ((0 ≤ (frD σ s i).1 ∧ (frD σ s i).1 < 7) ∧ 0 ≤ A_dev σ s i ∧ A_dev σ s i ≤ 10 * σ 2 ∧ A_dev σ s i ≤ 60000000) := by
  by_cases hd : (frD σ s i).1 = -9
  · exact Or.inl ⟨hd, dev_none hs hi hd⟩
  · have h1 := dev_fit hV hs hi hd
    have h2 := frD_r hV s i
    have h3 := hV.2.2.2.1
    exact Or.inr ⟨by omega, h1⟩
/-- presses: how many, and that they are the frames -/
theorem pc_r (hV : V σ) {s : Nat} (hs : s < 3) : (0 ≤ (pT σ s).1.2.2.2.2.1 ∧ (pT σ s).1.2.2.2.2.1 ≤ 30) ∧ (0 ≤ (pT σ s).1.2.2.2.2.2 ∧ (pT σ s).1.2.2.2.2.2 ≤ 100) ∧ ((pT σ s).1.2.2.2.2.1 < 30 → (pT σ s).1.2.2.2.2.2 + smP (pT σ s).2.2.2 (pT σ s).1.2.2.2.2.1.toNat = (Lσ σ s).length) := by
  have h1 := PI_f (s := s) hV (lnσ σ s)
  have h2 := PS_f σ s (lnσ σ s)
  have hl := len_r hV hs
  have e : lnσ σ s = (Lσ σ s).length := rfl
  obtain ⟨a1, a2, a3, a4, a5, a6, a7, a8⟩ := h1
  have a6 : 0 ≤ (pT σ s).1.2.2.2.2.1 ∧ (pT σ s).1.2.2.2.2.1 ≤ 30 := a6
  have a7 : 0 ≤ (pT σ s).1.2.2.2.2.2 ∧ (pT σ s).1.2.2.2.2.2 ≤ lnσ σ s := a7
  refine ⟨a6, by omega, fun h => ?_⟩
  have h3 : (pT σ s).1.2.2.2.2.2 + smP (pT σ s).2.2.2 (pT σ s).1.2.2.2.2.1.toNat = lnσ σ s := (h2.2 h).2
  rw [h3, e]
end
section
variable {p : Nat → Nat} {z l : Nat → Int → Int} {σ : Int → Int} {n : Int} {h : Int → Int → Int}
set_option maxHeartbeats 4000000 in
/-- two frames of a train -/
theorem w_l262 (sc : SCR) (hR : RX p z σ n h) {s g N : Nat} (hs : s < 3) {e : Int} (he : 0 ≤ e ∧ e < 40) (hN : N = (Lσ σ s).length) (hg : g ≤ 100) {Q : (Nat × Int32 × Int32 × MS) ⊕ (Int32 × MS) → Prop} (hQ : ∀ z' l', RX p z' σ n h → Q (.inl (0, I3 n, I3 (e + 1), M p z' l'))) : WP (f_L_law_262 sc 0 (I3 n) (I3 e) (I3 s) (I3 N) (I3 (-1)) (I3 g) (I3 g) (M p z l)) Q := by
  have hV := RX_V hR
  have hv := σ_tr hV hs
  have hl := len_r hV hs
  have hn6 := RX_n hR
  have hG : ∀ i : Nat, i < N → fsG (σ (83 + s)) (gl (Lσ σ s) i) := fun i hi => FS_g hv.1.1 (by rw [hN] at hi; exact hi)
  unfold f_L_law_262
  refine lp_W (fun m st => ∃ (i : Nat) (en : Int) (z' l' : Nat → Int → Int), st = (0, I3 n, I3 e, I3 s, I3 N, I3 en, I3 g, I3 i, M p z' l') ∧ (g ≤ i ∧ i ≤ g + 2) ∧ m = g + 2 - i ∧ RX p z' σ n h ∧ (-1 ≤ en ∧ en ≤ 200) ∧ (i < N → en < (gl (Lσ σ s) i).1)) (fun m st hst => ?_) (n := 2) ⟨g, -1, z, l, rfl, by omega, by omega, hR, by omega, fun hi => by have := (hG g hi).1; omega⟩
  obtain ⟨i, en, z', l', rfl, hi, rfl, hR', hen, hlt⟩ := hst
  unfold f_L_law_262_b
  by_cases h1 : i < N
  case neg =>
    simp (disch := first | assumption | omega) only [↓b_hid, bH_some, ↓hid_W, W_some, I3_a, I3_s, I3_m, I3_n, I3_l, I3_lt, I3_le, I3_e, I3_dv, I3_rm, I3_mx, I3_mn, I3_ab, cI, bI_0, bI_1, rZ_b, up_same, up_row, up_col, xr_some, LQ_r, LQ_l, Int.sub_self, Int.add_zero, Int.zero_add, Int.sub_zero, Int.neg_neg, not_true_eq_false, not_false_eq_true, Int.add_sub_cancel, ↓ite_iH, iH_t, iH_f, bH_iH, ↓bH_bind, xr_iH, ↓xr_bind, W_iH, WI_t, WI_f, aR_34, aR_19, sR_19, gR_0_0, pR_0, gI_0, pI_0, iO_0, gR_0_1, gR_0_3, gR_0_4, gR_0_5, gR_0_6, gR_0_7, gR_0_8, gR_0_9, gR_0_10, gR_0_11, f_L_law_372, iH_pos, iH_neg, WI_pos, WI_neg]
    exact hQ z' l' hR'
  by_cases h2 : i < g + 2
  case neg =>
    simp (disch := first | assumption | omega) only [↓b_hid, bH_some, ↓hid_W, W_some, I3_a, I3_s, I3_m, I3_n, I3_l, I3_lt, I3_le, I3_e, I3_dv, I3_rm, I3_mx, I3_mn, I3_ab, cI, bI_0, bI_1, rZ_b, up_same, up_row, up_col, xr_some, LQ_r, LQ_l, Int.sub_self, Int.add_zero, Int.zero_add, Int.sub_zero, Int.neg_neg, not_true_eq_false, not_false_eq_true, Int.add_sub_cancel, ↓ite_iH, iH_t, iH_f, bH_iH, ↓bH_bind, xr_iH, ↓xr_bind, W_iH, WI_t, WI_f, aR_34, aR_19, sR_19, gR_0_0, pR_0, gI_0, pI_0, iO_0, gR_0_1, gR_0_3, gR_0_4, gR_0_5, gR_0_6, gR_0_7, gR_0_8, gR_0_9, gR_0_10, gR_0_11, f_L_law_372, iH_pos, iH_neg, WI_pos, WI_neg]
    exact hQ z' l' hR'
  have hiL : i < (Lσ σ s).length := by omega
  have hGi := hG i h1
  have hE := hlt h1
  have hnx : i + 1 < N → (gl (Lσ σ s) i).1 + (gl (Lσ σ s) i).2 < (gl (Lσ σ s) (i + 1)).1 := fun hh => FS_chain (d := dσ σ s) (n := σ (83 + s)) (gap := σ 0) (by rw [hN] at hh; exact hh)
  have f0 := A_fr0 hs hiL
  have f1 := A_fr1 hs hiL
  have f2 := A_fr2 hs hiL
  have hd := dev_2 hV hs hiL
  obtain ⟨Dv, hDv⟩ : ∃ d, A_dev σ s i = d := ⟨_, rfl⟩
  unfold fsG at hGi
  rw [hDv] at hd
  generalize (gl (Lσ σ s) i).1 = A at *
  generalize (gl (Lσ σ s) i).2 = B at *
  generalize (frD σ s i).1 = C at *
  have hA0 : A % 2 = 0 := by omega
  have hB1 : ¬B % 2 = 0 := by omega
  have htl := hv.1.2
  simp (disch := first | assumption | omega) only [↓b_hid, bH_some, ↓hid_W, W_some, I3_a, I3_s, I3_m, I3_n, I3_l, I3_lt, I3_le, I3_e, I3_dv, I3_rm, I3_mx, I3_mn, I3_ab, cI, bI_0, bI_1, rZ_b, up_same, up_row, up_col, xr_some, LQ_r, LQ_l, Int.sub_self, Int.add_zero, Int.zero_add, Int.sub_zero, Int.neg_neg, not_true_eq_false, not_false_eq_true, Int.add_sub_cancel, ↓ite_iH, iH_t, iH_f, bH_iH, ↓bH_bind, xr_iH, ↓xr_bind, W_iH, WI_t, WI_f, aR_34, aR_19, sR_19, gR_0_0, pR_0, gI_0, pI_0, iO_0, gR_0_1, gR_0_3, gR_0_4, gR_0_5, gR_0_6, gR_0_7, gR_0_8, gR_0_9, gR_0_10, gR_0_11, iH_pos, iH_neg, WI_pos, WI_neg]
  refine W_bH (W_imp (ask (x_frame (s := s) (i := i) (w := 0) (by omega) (by omega) (by omega)) hR') ?_)
  rintro _ ⟨z1, l1, rfl, hR1⟩
  simp (disch := first | assumption | omega) only [↓b_hid, bH_some, ↓hid_W, W_some, I3_a, I3_s, I3_m, I3_n, I3_l, I3_lt, I3_le, I3_e, I3_dv, I3_rm, I3_mx, I3_mn, I3_ab, cI, bI_0, bI_1, rZ_b, up_same, up_row, up_col, xr_some, LQ_r, LQ_l, Int.sub_self, Int.add_zero, Int.zero_add, Int.sub_zero, Int.neg_neg, not_true_eq_false, not_false_eq_true, Int.add_sub_cancel, ↓ite_iH, iH_t, iH_f, bH_iH, ↓bH_bind, xr_iH, ↓xr_bind, W_iH, WI_t, WI_f, aR_34, aR_19, sR_19, gR_0_0, pR_0, gI_0, pI_0, iO_0, gR_0_1, gR_0_3, gR_0_4, gR_0_5, gR_0_6, gR_0_7, gR_0_8, gR_0_9, gR_0_10, gR_0_11, f0]
  refine W_bH (W_imp (ask (x_frame (s := s) (i := i) (w := 1) (by omega) (by omega) (by omega)) hR1) ?_)
  rintro _ ⟨z2, l2, rfl, hR2⟩
  simp (disch := first | assumption | omega) only [↓b_hid, bH_some, ↓hid_W, W_some, I3_a, I3_s, I3_m, I3_n, I3_l, I3_lt, I3_le, I3_e, I3_dv, I3_rm, I3_mx, I3_mn, I3_ab, cI, bI_0, bI_1, rZ_b, up_same, up_row, up_col, xr_some, LQ_r, LQ_l, Int.sub_self, Int.add_zero, Int.zero_add, Int.sub_zero, Int.neg_neg, not_true_eq_false, not_false_eq_true, Int.add_sub_cancel, ↓ite_iH, iH_t, iH_f, bH_iH, ↓bH_bind, xr_iH, ↓xr_bind, W_iH, WI_t, WI_f, aR_34, aR_19, sR_19, gR_0_0, pR_0, gI_0, pI_0, iO_0, gR_0_1, gR_0_3, gR_0_4, gR_0_5, gR_0_6, gR_0_7, gR_0_8, gR_0_9, gR_0_10, gR_0_11, f1, iH_pos, iH_neg, WI_pos, WI_neg]
  refine W_bH (W_imp (ask (x_frame (s := s) (i := i) (w := 2) (by omega) (by omega) (by omega)) hR2) ?_)
  rintro _ ⟨z3, l3, rfl, hR3⟩
  have fin : ∀ z5 l5, RX p z5 σ n h → LQ Q (fun m st => ∃ (i : Nat) (en : Int) (z' l' : Nat → Int → Int), st = (0, I3 n, I3 e, I3 s, I3 N, I3 en, I3 g, I3 i, M p z' l') ∧ (g ≤ i ∧ i ≤ g + 2) ∧ m = g + 2 - i ∧ RX p z' σ n h ∧ (-1 ≤ en ∧ en ≤ 200) ∧ (i < N → en < (gl (Lσ σ s) i).1)) (g + 2 - i) (.inl (0, I3 n, I3 e, I3 s, I3 N, I3 (A + B), I3 g, I3 ((i : Int) + 1), M p z5 l5)) := fun z5 l5 hR5 => by
    rw [LQ_l]
    exact ⟨g + 2 - (i + 1), by omega, i + 1, A + B, z5, l5, by rw [Int.natCast_add]; rfl, by omega, rfl, hR5, by omega, hnx⟩
  rcases hd with ⟨c9, d9⟩ | ⟨c0, d0, d1, d2⟩
  · simp (disch := first | assumption | omega) only [↓b_hid, bH_some, ↓hid_W, W_some, I3_a, I3_s, I3_m, I3_n, I3_l, I3_lt, I3_le, I3_e, I3_dv, I3_rm, I3_mx, I3_mn, I3_ab, cI, bI_0, bI_1, rZ_b, up_same, up_row, up_col, xr_some, LQ_r, LQ_l, Int.sub_self, Int.add_zero, Int.zero_add, Int.sub_zero, Int.neg_neg, not_true_eq_false, not_false_eq_true, Int.add_sub_cancel, ↓ite_iH, iH_t, iH_f, bH_iH, ↓bH_bind, xr_iH, ↓xr_bind, W_iH, WI_t, WI_f, aR_34, aR_19, sR_19, gR_0_0, pR_0, gI_0, pI_0, iO_0, gR_0_1, gR_0_3, gR_0_4, gR_0_5, gR_0_6, gR_0_7, gR_0_8, gR_0_9, gR_0_10, gR_0_11, f2, f_L_law_338, iH_pos, iH_neg, WI_pos, WI_neg]
    refine W_bH (W_imp (ask (x_deviation (s := s) (i := i) (by omega) (by omega)) hR3) ?_)
    rintro _ ⟨z4, l4, rfl, hR4⟩
    simp (disch := first | assumption | omega) only [↓b_hid, bH_some, ↓hid_W, W_some, I3_a, I3_s, I3_m, I3_n, I3_l, I3_lt, I3_le, I3_e, I3_dv, I3_rm, I3_mx, I3_mn, I3_ab, cI, bI_0, bI_1, rZ_b, up_same, up_row, up_col, xr_some, LQ_r, LQ_l, Int.sub_self, Int.add_zero, Int.zero_add, Int.sub_zero, Int.neg_neg, not_true_eq_false, not_false_eq_true, Int.add_sub_cancel, ↓ite_iH, iH_t, iH_f, bH_iH, ↓bH_bind, xr_iH, ↓xr_bind, W_iH, WI_t, WI_f, aR_34, aR_19, sR_19, gR_0_0, pR_0, gI_0, pI_0, iO_0, gR_0_1, gR_0_3, gR_0_4, gR_0_5, gR_0_6, gR_0_7, gR_0_8, gR_0_9, gR_0_10, gR_0_11, hDv, f0, f1, f_L_law_354, iH_pos, iH_neg, WI_pos, WI_neg]
    have := fin z4 l4 hR4
    rw [LQ_l] at this
    exact this
  · simp (disch := first | assumption | omega) only [↓b_hid, bH_some, ↓hid_W, W_some, I3_a, I3_s, I3_m, I3_n, I3_l, I3_lt, I3_le, I3_e, I3_dv, I3_rm, I3_mx, I3_mn, I3_ab, cI, bI_0, bI_1, rZ_b, up_same, up_row, up_col, xr_some, LQ_r, LQ_l, Int.sub_self, Int.add_zero, Int.zero_add, Int.sub_zero, Int.neg_neg, not_true_eq_false, not_false_eq_true, Int.add_sub_cancel, ↓ite_iH, iH_t, iH_f, bH_iH, ↓bH_bind, xr_iH, ↓xr_bind, W_iH, WI_t, WI_f, aR_34, aR_19, sR_19, gR_0_0, pR_0, gI_0, pI_0, iO_0, gR_0_1, gR_0_3, gR_0_4, gR_0_5, gR_0_6, gR_0_7, gR_0_8, gR_0_9, gR_0_10, gR_0_11, f2, f_L_law_338, iH_pos, iH_neg, WI_pos, WI_neg]
    refine W_bH (W_imp (ask (x_deviation (s := s) (i := i) (by omega) (by omega)) hR3) ?_)
    rintro _ ⟨z4, l4, rfl, hR4⟩
    simp (disch := first | assumption | omega) only [↓b_hid, bH_some, ↓hid_W, W_some, I3_a, I3_s, I3_m, I3_n, I3_l, I3_lt, I3_le, I3_e, I3_dv, I3_rm, I3_mx, I3_mn, I3_ab, cI, bI_0, bI_1, rZ_b, up_same, up_row, up_col, xr_some, LQ_r, LQ_l, Int.sub_self, Int.add_zero, Int.zero_add, Int.sub_zero, Int.neg_neg, not_true_eq_false, not_false_eq_true, Int.add_sub_cancel, ↓ite_iH, iH_t, iH_f, bH_iH, ↓bH_bind, xr_iH, ↓xr_bind, W_iH, WI_t, WI_f, aR_34, aR_19, sR_19, gR_0_0, pR_0, gI_0, pI_0, iO_0, gR_0_1, gR_0_3, gR_0_4, gR_0_5, gR_0_6, gR_0_7, gR_0_8, gR_0_9, gR_0_10, gR_0_11, hDv, f0, f1, f_L_law_354, iH_pos, iH_neg, WI_pos, WI_neg]
    have := fin z4 l4 hR4
    rw [LQ_l] at this
    exact this
set_option maxHeartbeats 4000000 in
theorem w_l235 (sc : SCR) (hR : RX p z σ n h) {s N : Nat} (hs : s < 3) {e : Int} (he : 0 ≤ e ∧ e < 40) (v : Int32) (hN : N = (Lσ σ s).length) {Q : (Nat × Int32 × Int32 × MS) ⊕ (Int32 × MS) → Prop} (hQ : ∀ z' l', RX p z' σ n h → Q (.inl (0, I3 n, I3 (e + 1), M p z' l'))) : WP (f_L_law_235 sc 0 (I3 n) (I3 e) v (I3 s) (I3 N) (M p z l)) Q := by
  have hl := len_r (RX_V hR) hs
  unfold f_L_law_235
  by_cases h0 : N = 0
  · simp (disch := first | assumption | omega) only [↓b_hid, bH_some, ↓hid_W, W_some, I3_a, I3_s, I3_m, I3_n, I3_l, I3_lt, I3_le, I3_e, I3_dv, I3_rm, I3_mx, I3_mn, I3_ab, cI, bI_0, bI_1, rZ_b, up_same, up_row, up_col, xr_some, LQ_r, LQ_l, Int.sub_self, Int.add_zero, Int.zero_add, Int.sub_zero, Int.neg_neg, not_true_eq_false, not_false_eq_true, Int.add_sub_cancel, ↓ite_iH, iH_t, iH_f, bH_iH, ↓bH_bind, xr_iH, ↓xr_bind, W_iH, WI_t, WI_f, aR_34, aR_19, sR_19, gR_0_0, pR_0, gI_0, pI_0, iO_0, gR_0_1, gR_0_3, gR_0_4, gR_0_5, gR_0_6, gR_0_7, gR_0_8, gR_0_9, gR_0_10, gR_0_11, f_L_law_256, iH_pos, iH_neg, WI_pos, WI_neg]
    exact w_l262 (g := 0) sc hR hs he hN (by omega) hQ
  · obtain ⟨g, e1, g0, g1⟩ := low_r (v >>> (I3 5 &&& I3 31)) (n := N) (by omega) (by omega)
    have gl : ∀ μ, f_L_low (v >>> (I3 5 &&& I3 31)) (I3 N) μ = some (I3 g, μ) := fun μ => by
      rw [low_e (by rw [show (0 : Int32) = I3 0 from rfl]; intro hh; have := I3_inj (by omega) (by omega) (by omega) (by omega) hh; omega), e1]
    obtain ⟨k, rfl⟩ : ∃ k : Nat, g = k := ⟨g.toNat, by omega⟩
    simp (disch := first | assumption | omega) only [↓b_hid, bH_some, ↓hid_W, W_some, I3_a, I3_s, I3_m, I3_n, I3_l, I3_lt, I3_le, I3_e, I3_dv, I3_rm, I3_mx, I3_mn, I3_ab, cI, bI_0, bI_1, rZ_b, up_same, up_row, up_col, xr_some, LQ_r, LQ_l, Int.sub_self, Int.add_zero, Int.zero_add, Int.sub_zero, Int.neg_neg, not_true_eq_false, not_false_eq_true, Int.add_sub_cancel, ↓ite_iH, iH_t, iH_f, bH_iH, ↓bH_bind, xr_iH, ↓xr_bind, W_iH, WI_t, WI_f, aR_34, aR_19, sR_19, gR_0_0, pR_0, gI_0, pI_0, iO_0, gR_0_1, gR_0_3, gR_0_4, gR_0_5, gR_0_6, gR_0_7, gR_0_8, gR_0_9, gR_0_10, gR_0_11, gl, f_L_law_256, iH_pos, iH_neg, WI_pos, WI_neg]
    exact w_l262 (g := k) sc hR hs he hN (by omega) hQ
set_option maxHeartbeats 4000000 in
/-- the presses counted -/
theorem w_l182 (sc : SCR) (hR : RX p z σ n h) {s N : Nat} (hs : s < 3) {e : Int} (he : 0 ≤ e ∧ e < 40) (v : Int32) (hN : N = (Lσ σ s).length) {Q : (Nat × Int32 × Int32 × MS) ⊕ (Int32 × MS) → Prop} (hQ : ∀ z' l', RX p z' σ n h → Q (.inl (0, I3 n, I3 (e + 1), M p z' l'))) {ad : Int} (had : ad = 0 ∨ ad = 1) : WP (f_L_law_182 sc 0 (I3 n) (I3 e) v (I3 s) (I3 (pT σ s).1.2.2.2.2.2) (I3 N) (I3 (pT σ s).1.2.2.2.2.1) (I3 ad) (I3 0) (M p z l)) Q := by
  have hV := RX_V hR
  have hl := len_r hV hs
  obtain ⟨p1, p2, p3⟩ := pc_r hV hs
  unfold f_L_law_182
  refine lp_W (fun m st => ∃ (k : Nat) (z' l' : Nat → Int → Int), st = (0, I3 n, I3 e, v, I3 s, I3 ((pT σ s).1.2.2.2.2.2 + smP (pT σ s).2.2.2 k), I3 N, I3 (pT σ s).1.2.2.2.2.1, I3 ad, I3 k, M p z' l') ∧ (k : Int) ≤ (pT σ s).1.2.2.2.2.1 ∧ m = (pT σ s).1.2.2.2.2.1.toNat - k ∧ RX p z' σ n h) (fun m st hst => ?_) (n := (pT σ s).1.2.2.2.2.1.toNat) ⟨0, z, l, by simp only [smP, Int.add_zero]; rfl, by omega, rfl, hR⟩
  obtain ⟨k, z', l', rfl, hk, rfl, hR'⟩ := hst
  unfold f_L_law_182_b
  by_cases h1 : (k : Int) < (pT σ s).1.2.2.2.2.1
  · by_cases h2 : ad = 0
    · generalize (pT σ s).1.2.2.2.2.1 = Np at *
      generalize (pT σ s).1.2.2.2.2.2 = St at *
      simp (disch := first | assumption | omega) only [↓b_hid, bH_some, ↓hid_W, W_some, I3_a, I3_s, I3_m, I3_n, I3_l, I3_lt, I3_le, I3_e, I3_dv, I3_rm, I3_mx, I3_mn, I3_ab, cI, bI_0, bI_1, rZ_b, up_same, up_row, up_col, xr_some, LQ_r, LQ_l, Int.sub_self, Int.add_zero, Int.zero_add, Int.sub_zero, Int.neg_neg, not_true_eq_false, not_false_eq_true, Int.add_sub_cancel, ↓ite_iH, iH_t, iH_f, bH_iH, ↓bH_bind, xr_iH, ↓xr_bind, W_iH, WI_t, WI_f, aR_34, aR_19, sR_19, gR_0_0, pR_0, gI_0, pI_0, iO_0, gR_0_1, gR_0_3, gR_0_4, gR_0_5, gR_0_6, gR_0_7, gR_0_8, gR_0_9, gR_0_10, gR_0_11, f_L_law_214, iH_pos, iH_neg, WI_pos, WI_neg]
      refine W_xr (W_imp (w_l235 sc hR' hs he v hN hQ) (fun r hr => ?_))
      rw [LQ_r]; exact hr
    · have hp2 := A_p2 hs h1
      have hsm : smP (pT σ s).2.2.2 (k + 1) = smP (pT σ s).2.2.2 k + (pT σ s).2.2.2 k := rfl
      generalize (pT σ s).1.2.2.2.2.1 = Np at *
      generalize (pT σ s).1.2.2.2.2.2 = St at *
      generalize smP (pT σ s).2.2.2 k = Sm at *
      generalize (pT σ s).2.2.2 k = Kk at *
      simp (disch := first | assumption | omega) only [↓b_hid, bH_some, ↓hid_W, W_some, I3_a, I3_s, I3_m, I3_n, I3_l, I3_lt, I3_le, I3_e, I3_dv, I3_rm, I3_mx, I3_mn, I3_ab, cI, bI_0, bI_1, rZ_b, up_same, up_row, up_col, xr_some, LQ_r, LQ_l, Int.sub_self, Int.add_zero, Int.zero_add, Int.sub_zero, Int.neg_neg, not_true_eq_false, not_false_eq_true, Int.add_sub_cancel, ↓ite_iH, iH_t, iH_f, bH_iH, ↓bH_bind, xr_iH, ↓xr_bind, W_iH, WI_t, WI_f, aR_34, aR_19, sR_19, gR_0_0, pR_0, gI_0, pI_0, iO_0, gR_0_1, gR_0_3, gR_0_4, gR_0_5, gR_0_6, gR_0_7, gR_0_8, gR_0_9, gR_0_10, gR_0_11, iH_pos, iH_neg, WI_pos, WI_neg]
      refine W_bH (W_imp (ask (x_press (s := s) (i := k) (w := 2) (by omega) (by omega) (by omega)) hR') ?_)
      rintro _ ⟨z1, l1, rfl, hR1⟩
      simp (disch := first | assumption | omega) only [↓b_hid, bH_some, ↓hid_W, W_some, I3_a, I3_s, I3_m, I3_n, I3_l, I3_lt, I3_le, I3_e, I3_dv, I3_rm, I3_mx, I3_mn, I3_ab, cI, bI_0, bI_1, rZ_b, up_same, up_row, up_col, xr_some, LQ_r, LQ_l, Int.sub_self, Int.add_zero, Int.zero_add, Int.sub_zero, Int.neg_neg, not_true_eq_false, not_false_eq_true, Int.add_sub_cancel, ↓ite_iH, iH_t, iH_f, bH_iH, ↓bH_bind, xr_iH, ↓xr_bind, W_iH, WI_t, WI_f, aR_34, aR_19, sR_19, gR_0_0, pR_0, gI_0, pI_0, iO_0, gR_0_1, gR_0_3, gR_0_4, gR_0_5, gR_0_6, gR_0_7, gR_0_8, gR_0_9, gR_0_10, gR_0_11, hp2]
      refine ⟨Np.toNat - (k + 1), by omega, k + 1, z1, l1, ?_, by omega, rfl, hR1⟩
      rw [hsm, Int.natCast_add, Int.add_assoc]; rfl
  · have hkk : k = (pT σ s).1.2.2.2.2.1.toNat := by omega
    subst hkk
    generalize smP (pT σ s).2.2.2 (pT σ s).1.2.2.2.2.1.toNat = Sm at *
    generalize (pT σ s).1.2.2.2.2.1 = Np at *
    generalize (pT σ s).1.2.2.2.2.2 = St at *
    by_cases h2 : ad = 0
    · simp (disch := first | assumption | omega) only [↓b_hid, bH_some, ↓hid_W, W_some, I3_a, I3_s, I3_m, I3_n, I3_l, I3_lt, I3_le, I3_e, I3_dv, I3_rm, I3_mx, I3_mn, I3_ab, cI, bI_0, bI_1, rZ_b, up_same, up_row, up_col, xr_some, LQ_r, LQ_l, Int.sub_self, Int.add_zero, Int.zero_add, Int.sub_zero, Int.neg_neg, not_true_eq_false, not_false_eq_true, Int.add_sub_cancel, ↓ite_iH, iH_t, iH_f, bH_iH, ↓bH_bind, xr_iH, ↓xr_bind, W_iH, WI_t, WI_f, aR_34, aR_19, sR_19, gR_0_0, pR_0, gI_0, pI_0, iO_0, gR_0_1, gR_0_3, gR_0_4, gR_0_5, gR_0_6, gR_0_7, gR_0_8, gR_0_9, gR_0_10, gR_0_11, f_L_law_214, iH_pos, iH_neg, WI_pos, WI_neg]
      refine W_xr (W_imp (w_l235 sc hR' hs he v hN hQ) (fun r hr => ?_))
      rw [LQ_r]; exact hr
    · by_cases h3 : Np < 30
      · have hs3 : St + Sm = N := by rw [hN]; exact p3 h3
        simp (disch := first | assumption | omega) only [↓b_hid, bH_some, ↓hid_W, W_some, I3_a, I3_s, I3_m, I3_n, I3_l, I3_lt, I3_le, I3_e, I3_dv, I3_rm, I3_mx, I3_mn, I3_ab, cI, bI_0, bI_1, rZ_b, up_same, up_row, up_col, xr_some, LQ_r, LQ_l, Int.sub_self, Int.add_zero, Int.zero_add, Int.sub_zero, Int.neg_neg, not_true_eq_false, not_false_eq_true, Int.add_sub_cancel, ↓ite_iH, iH_t, iH_f, bH_iH, ↓bH_bind, xr_iH, ↓xr_bind, W_iH, WI_t, WI_f, aR_34, aR_19, sR_19, gR_0_0, pR_0, gI_0, pI_0, iO_0, gR_0_1, gR_0_3, gR_0_4, gR_0_5, gR_0_6, gR_0_7, gR_0_8, gR_0_9, gR_0_10, gR_0_11, f_L_law_214, hs3, iH_pos, iH_neg, WI_pos, WI_neg]
        refine W_xr (W_imp (w_l235 sc hR' hs he v hN hQ) (fun r hr => ?_))
        rw [LQ_r]; exact hr
      · simp (disch := first | assumption | omega) only [↓b_hid, bH_some, ↓hid_W, W_some, I3_a, I3_s, I3_m, I3_n, I3_l, I3_lt, I3_le, I3_e, I3_dv, I3_rm, I3_mx, I3_mn, I3_ab, cI, bI_0, bI_1, rZ_b, up_same, up_row, up_col, xr_some, LQ_r, LQ_l, Int.sub_self, Int.add_zero, Int.zero_add, Int.sub_zero, Int.neg_neg, not_true_eq_false, not_false_eq_true, Int.add_sub_cancel, ↓ite_iH, iH_t, iH_f, bH_iH, ↓bH_bind, xr_iH, ↓xr_bind, W_iH, WI_t, WI_f, aR_34, aR_19, sR_19, gR_0_0, pR_0, gI_0, pI_0, iO_0, gR_0_1, gR_0_3, gR_0_4, gR_0_5, gR_0_6, gR_0_7, gR_0_8, gR_0_9, gR_0_10, gR_0_11, f_L_law_214, iH_pos, iH_neg, WI_pos, WI_neg]
        refine W_xr (W_imp (w_l235 sc hR' hs he v hN hQ) (fun r hr => ?_))
        rw [LQ_r]; exact hr
set_option maxHeartbeats 4000000 in
theorem w_l120 (sc : SCR) (hR : RX p z σ n h) {e : Int} (he : 0 ≤ e ∧ e < 40) (v : Int32) {Q : (Nat × Int32 × Int32 × MS) ⊕ (Int32 × MS) → Prop} (hQ : ∀ z' l', RX p z' σ n h → Q (.inl (0, I3 n, I3 (e + 1), M p z' l'))) : WP (f_L_law_120 sc 0 (I3 n) (I3 e) v (M p z l)) Q := by
  have hV := RX_V hR
  have hn6 := RX_n hR
  obtain ⟨s', e1, g0, g1⟩ := low_r (v >>> (I3 4 &&& I3 31)) (n := 3) (by omega) (by omega)
  have glw : ∀ μ, f_L_low (v >>> (I3 4 &&& I3 31)) (I3 3) μ = some (I3 s', μ) := fun μ => by
    rw [low_e (by decide), e1]
  obtain ⟨s, rfl⟩ : ∃ k : Nat, s' = k := ⟨s'.toNat, by omega⟩
  have hs : s < 3 := by omega
  have g3 := k_count3 (l := l) hR
  have hl := len_r hV hs
  have q1 := A_sc (σ := σ) hs
  have q2 := A_fc (σ := σ) hs
  have q3 := A_pc (σ := σ) hs
  unfold f_L_law_120
  simp (disch := first | assumption | omega) only [↓b_hid, bH_some, ↓hid_W, W_some, I3_a, I3_s, I3_m, I3_n, I3_l, I3_lt, I3_le, I3_e, I3_dv, I3_rm, I3_mx, I3_mn, I3_ab, cI, bI_0, bI_1, rZ_b, up_same, up_row, up_col, xr_some, LQ_r, LQ_l, Int.sub_self, Int.add_zero, Int.zero_add, Int.sub_zero, Int.neg_neg, not_true_eq_false, not_false_eq_true, Int.add_sub_cancel, ↓ite_iH, iH_t, iH_f, bH_iH, ↓bH_bind, xr_iH, ↓xr_bind, W_iH, WI_t, WI_f, aR_34, aR_19, sR_19, gR_0_0, pR_0, gI_0, pI_0, iO_0, gR_0_1, gR_0_3, gR_0_4, gR_0_5, gR_0_6, gR_0_7, gR_0_8, gR_0_9, gR_0_10, gR_0_11, g3, glw, iH_pos, iH_neg, WI_pos, WI_neg]
  refine W_bH (W_imp (ask (x_strayCount (s := s) (by omega)) hR) ?_)
  rintro _ ⟨z1, l1, rfl, hR1⟩
  simp (disch := first | assumption | omega) only [↓b_hid, bH_some, ↓hid_W, W_some, I3_a, I3_s, I3_m, I3_n, I3_l, I3_lt, I3_le, I3_e, I3_dv, I3_rm, I3_mx, I3_mn, I3_ab, cI, bI_0, bI_1, rZ_b, up_same, up_row, up_col, xr_some, LQ_r, LQ_l, Int.sub_self, Int.add_zero, Int.zero_add, Int.sub_zero, Int.neg_neg, not_true_eq_false, not_false_eq_true, Int.add_sub_cancel, ↓ite_iH, iH_t, iH_f, bH_iH, ↓bH_bind, xr_iH, ↓xr_bind, W_iH, WI_t, WI_f, aR_34, aR_19, sR_19, gR_0_0, pR_0, gI_0, pI_0, iO_0, gR_0_1, gR_0_3, gR_0_4, gR_0_5, gR_0_6, gR_0_7, gR_0_8, gR_0_9, gR_0_10, gR_0_11]
  refine W_bH (W_imp (ask (x_frameCount (s := s) (by omega)) hR1) ?_)
  rintro _ ⟨z2, l2, rfl, hR2⟩
  simp (disch := first | assumption | omega) only [↓b_hid, bH_some, ↓hid_W, W_some, I3_a, I3_s, I3_m, I3_n, I3_l, I3_lt, I3_le, I3_e, I3_dv, I3_rm, I3_mx, I3_mn, I3_ab, cI, bI_0, bI_1, rZ_b, up_same, up_row, up_col, xr_some, LQ_r, LQ_l, Int.sub_self, Int.add_zero, Int.zero_add, Int.sub_zero, Int.neg_neg, not_true_eq_false, not_false_eq_true, Int.add_sub_cancel, ↓ite_iH, iH_t, iH_f, bH_iH, ↓bH_bind, xr_iH, ↓xr_bind, W_iH, WI_t, WI_f, aR_34, aR_19, sR_19, gR_0_0, pR_0, gI_0, pI_0, iO_0, gR_0_1, gR_0_3, gR_0_4, gR_0_5, gR_0_6, gR_0_7, gR_0_8, gR_0_9, gR_0_10, gR_0_11]
  refine W_bH (W_imp (ask (x_pressCount (s := s) (by omega)) hR2) ?_)
  rintro _ ⟨z3, l3, rfl, hR3⟩
  by_cases h4 : e % 4 = 3
  · simp (disch := first | assumption | omega) only [↓b_hid, bH_some, ↓hid_W, W_some, I3_a, I3_s, I3_m, I3_n, I3_l, I3_lt, I3_le, I3_e, I3_dv, I3_rm, I3_mx, I3_mn, I3_ab, cI, bI_0, bI_1, rZ_b, up_same, up_row, up_col, xr_some, LQ_r, LQ_l, Int.sub_self, Int.add_zero, Int.zero_add, Int.sub_zero, Int.neg_neg, not_true_eq_false, not_false_eq_true, Int.add_sub_cancel, ↓ite_iH, iH_t, iH_f, bH_iH, ↓bH_bind, xr_iH, ↓xr_bind, W_iH, WI_t, WI_f, aR_34, aR_19, sR_19, gR_0_0, pR_0, gI_0, pI_0, iO_0, gR_0_1, gR_0_3, gR_0_4, gR_0_5, gR_0_6, gR_0_7, gR_0_8, gR_0_9, gR_0_10, gR_0_11, q1, q2, q3, f_L_law_177, iH_pos, iH_neg, WI_pos, WI_neg]
    exact w_l182 sc hR3 hs he v rfl hQ (Or.inr rfl)
  · simp (disch := first | assumption | omega) only [↓b_hid, bH_some, ↓hid_W, W_some, I3_a, I3_s, I3_m, I3_n, I3_l, I3_lt, I3_le, I3_e, I3_dv, I3_rm, I3_mx, I3_mn, I3_ab, cI, bI_0, bI_1, rZ_b, up_same, up_row, up_col, xr_some, LQ_r, LQ_l, Int.sub_self, Int.add_zero, Int.zero_add, Int.sub_zero, Int.neg_neg, not_true_eq_false, not_false_eq_true, Int.add_sub_cancel, ↓ite_iH, iH_t, iH_f, bH_iH, ↓bH_bind, xr_iH, ↓xr_bind, W_iH, WI_t, WI_f, aR_34, aR_19, sR_19, gR_0_0, pR_0, gI_0, pI_0, iO_0, gR_0_1, gR_0_3, gR_0_4, gR_0_5, gR_0_6, gR_0_7, gR_0_8, gR_0_9, gR_0_10, gR_0_11, q1, q2, q3, f_L_law_177, iH_pos, iH_neg, WI_pos, WI_neg]
    exact w_l182 sc hR3 hs he v rfl hQ (Or.inl rfl)
end
