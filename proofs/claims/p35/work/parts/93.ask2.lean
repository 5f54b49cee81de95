/-! Calls that only ask: button(), frame(), press(). -/
def A_button (σ : Int → Int) (i w : Int) : Int := if 0 ≤ i ∧ i < σ 58 then (if 0 ≤ w ∧ w ≤ 1 then σ (59 + 2 * i + w) else -1) else -1
theorem x_button {i : Int} (hi : -2147483648 ≤ i ∧ i < 2147483648) {w : Int} (hw : -2147483648 ≤ w ∧ w < 2147483648) : CQ (f_X11_button 0 (I3 i) (I3 w)) (fun σ => A_button σ i w) := by
  intro p z l σ hb hV hS
  dsimp only
  obtain ⟨⟨e1, e2⟩, h3, h58⟩ := c_tb hV hS
  have hTb := isTb_B hb
  unfold f_X11_button A_button
  have gh := g_hasB (p := p) (z := z) (l := l) (i := i) hTb (by omega) (by omega) hi.1 hi.2
  by_cases h1 : 0 ≤ i ∧ i < σ 58
  · rw [e2, bI_t h1] at gh
    rw [if_pos h1]
    obtain ⟨⟨b1, b2⟩, b3⟩ := c_bt hV hS h1.1 h1.2
    by_cases h2 : 0 ≤ w ∧ w ≤ 1
    · rw [if_pos h2]
      have gp := g_pOfB (p := p) (z := z) (l := l) (i := i) hTb (by omega) (by omega) h1.1 (by omega)
      have gi := g_iOfB (p := p) (z := z) (l := l) (i := i) hTb (by omega) (by omega) h1.1 (by omega)
      rw [b1] at gp
      rw [b2] at gi
      by_cases hw0 : w = 0
      · subst hw0
        simp (disch := first | assumption | omega) only [↓b_hid, bH_some, ↓hid_W, W_some, I3_a, I3_s, I3_m, I3_n, I3_l, I3_lt, I3_le, I3_e, I3_dv, I3_rm, I3_mx, I3_mn, I3_ab, cI, bI_0, bI_1, rZ_b, up_same, up_row, up_col, xr_some, LQ_r, LQ_l, Int.sub_self, Int.add_zero, Int.zero_add, Int.sub_zero, Int.neg_neg, not_true_eq_false, not_false_eq_true, Int.add_sub_cancel, ↓ite_iH, iH_t, iH_f, bH_iH, ↓bH_bind, xr_iH, ↓xr_bind, W_iH, WI_t, WI_f, aR_34, aR_19, sR_19, gR_0_0, pR_0, gI_0, pI_0, iO_0, gR_0_1, gR_0_3, gR_0_4, gR_0_5, gR_0_6, gR_0_7, gR_0_8, gR_0_9, gR_0_10, gR_0_11, gI_B, pI_B, iO_B, gR_B0, gR_B1, aR_B, iO_Tb, gh, g_inRange, bI_t, gp, iH_pos, iH_neg, WI_pos, WI_neg]
        exact ⟨z, l, rfl, FrX_r z⟩
      · have : w = 1 := by omega
        subst this
        have e60 : 59 + 2 * i + 1 = 60 + 2 * i := by omega
        rw [e60]
        simp (disch := first | assumption | omega) only [↓b_hid, bH_some, ↓hid_W, W_some, I3_a, I3_s, I3_m, I3_n, I3_l, I3_lt, I3_le, I3_e, I3_dv, I3_rm, I3_mx, I3_mn, I3_ab, cI, bI_0, bI_1, rZ_b, up_same, up_row, up_col, xr_some, LQ_r, LQ_l, Int.sub_self, Int.add_zero, Int.zero_add, Int.sub_zero, Int.neg_neg, not_true_eq_false, not_false_eq_true, Int.add_sub_cancel, ↓ite_iH, iH_t, iH_f, bH_iH, ↓bH_bind, xr_iH, ↓xr_bind, W_iH, WI_t, WI_f, aR_34, aR_19, sR_19, gR_0_0, pR_0, gI_0, pI_0, iO_0, gR_0_1, gR_0_3, gR_0_4, gR_0_5, gR_0_6, gR_0_7, gR_0_8, gR_0_9, gR_0_10, gR_0_11, gI_B, pI_B, iO_B, gR_B0, gR_B1, aR_B, iO_Tb, gh, g_inRange, bI_t, gi, iH_pos, iH_neg, WI_pos, WI_neg]
        exact ⟨z, l, rfl, FrX_r z⟩
    · rw [if_neg h2]
      simp (disch := first | assumption | omega) only [↓b_hid, bH_some, ↓hid_W, W_some, I3_a, I3_s, I3_m, I3_n, I3_l, I3_lt, I3_le, I3_e, I3_dv, I3_rm, I3_mx, I3_mn, I3_ab, cI, bI_0, bI_1, rZ_b, up_same, up_row, up_col, xr_some, LQ_r, LQ_l, Int.sub_self, Int.add_zero, Int.zero_add, Int.sub_zero, Int.neg_neg, not_true_eq_false, not_false_eq_true, Int.add_sub_cancel, ↓ite_iH, iH_t, iH_f, bH_iH, ↓bH_bind, xr_iH, ↓xr_bind, W_iH, WI_t, WI_f, aR_34, aR_19, sR_19, gR_0_0, pR_0, gI_0, pI_0, iO_0, gR_0_1, gR_0_3, gR_0_4, gR_0_5, gR_0_6, gR_0_7, gR_0_8, gR_0_9, gR_0_10, gR_0_11, gI_B, pI_B, iO_B, gR_B0, gR_B1, aR_B, iO_Tb, gh, g_inRange, bI_f, iH_pos, iH_neg, WI_pos, WI_neg]
      exact ⟨z, l, rfl, FrX_r z⟩
  · rw [e2, bI_f h1] at gh
    rw [if_neg h1]
    simp (disch := first | assumption | omega) only [↓b_hid, bH_some, ↓hid_W, W_some, I3_a, I3_s, I3_m, I3_n, I3_l, I3_lt, I3_le, I3_e, I3_dv, I3_rm, I3_mx, I3_mn, I3_ab, cI, bI_0, bI_1, rZ_b, up_same, up_row, up_col, xr_some, LQ_r, LQ_l, Int.sub_self, Int.add_zero, Int.zero_add, Int.sub_zero, Int.neg_neg, not_true_eq_false, not_false_eq_true, Int.add_sub_cancel, ↓ite_iH, iH_t, iH_f, bH_iH, ↓bH_bind, xr_iH, ↓xr_bind, W_iH, WI_t, WI_f, aR_34, aR_19, sR_19, gR_0_0, pR_0, gI_0, pI_0, iO_0, gR_0_1, gR_0_3, gR_0_4, gR_0_5, gR_0_6, gR_0_7, gR_0_8, gR_0_9, gR_0_10, gR_0_11, gI_B, pI_B, iO_B, gR_B0, gR_B1, aR_B, iO_Tb, gh, iH_pos, iH_neg, WI_pos, WI_neg]
    exact ⟨z, l, rfl, FrX_r z⟩
noncomputable def frD (σ : Int → Int) (s i : Nat) : Int × Int := dcd σ (dσ σ s) (σ (83 + s)) (σ 2) i
theorem frD_r {σ : Int → Int} (hV : V σ) (s i : Nat) : ((frD σ s i).1 = -9 ∧ (frD σ s i).2 = -9 ∨ (0 ≤ (frD σ s i).1 ∧ (frD σ s i).1 < σ 3) ∧ ((frD σ s i).2 = -9 ∨ 0 ≤ (frD σ s i).2 ∧ (frD σ s i).2 ≤ 1000000)) := by
  have h := dcd_r (d := dσ σ s) (n := σ (83 + s)) (tol := σ 2) i hV
  unfold frD
  rcases h with h | ⟨j, h1, h2, h4⟩
  · rw [h]; exact Or.inl ⟨rfl, rfl⟩
  · refine Or.inr ⟨?_, h4⟩
    have := V_n hV; omega
noncomputable def A_frame (σ : Int → Int) (s i w : Int) : Int := if 0 ≤ s ∧ s ≤ 2 then (if 0 ≤ i then (if 0 ≤ w ∧ w ≤ 4 then (if i < (Lσ σ s.toNat).length then (if w = 0 then (gl (Lσ σ s.toNat) i.toNat).1 else if w = 1 then (gl (Lσ σ s.toNat) i.toNat).2 else if w = 2 then (frD σ s.toNat i.toNat).1 else if w = 3 then (frD σ s.toNat i.toNat).2 else if (frD σ s.toNat i.toNat).1 = -9 then -9 else if (frD σ s.toNat i.toNat).2 = -9 then 1 else 0) else -9) else -1) else -1) else -1
set_option maxHeartbeats 4000000 in
theorem x_frame {s : Int} (hs : -2147483648 ≤ s ∧ s < 2147483648) {i : Int} (hi : -2147483648 ≤ i ∧ i < 2147483648) {w : Int} (hw : -2147483648 ≤ w ∧ w < 2147483648) : CQ (f_X11_frame 0 (I3 s) (I3 i) (I3 w)) (fun σ => A_frame σ s i w) := by
  intro p z l σ hb hV hS
  dsimp only
  have eg : z (p 0) 2 = σ 0 := hS.1.1
  have hr := isB_r hb
  unfold f_X11_frame A_frame
  by_cases h1 : 0 ≤ s ∧ s ≤ 2
  case neg =>
    rw [if_neg h1]
    simp (disch := first | assumption | omega) only [↓b_hid, bH_some, ↓hid_W, W_some, I3_a, I3_s, I3_m, I3_n, I3_l, I3_lt, I3_le, I3_e, I3_dv, I3_rm, I3_mx, I3_mn, I3_ab, cI, bI_0, bI_1, rZ_b, up_same, up_row, up_col, xr_some, LQ_r, LQ_l, Int.sub_self, Int.add_zero, Int.zero_add, Int.sub_zero, Int.neg_neg, not_true_eq_false, not_false_eq_true, Int.add_sub_cancel, ↓ite_iH, iH_t, iH_f, bH_iH, ↓bH_bind, xr_iH, ↓xr_bind, W_iH, WI_t, WI_f, g_isSlot, bI_f, iH_pos, iH_neg, WI_pos, WI_neg]
    exact ⟨z, l, rfl, FrX_r z⟩
  rw [if_pos h1]
  by_cases h2 : 0 ≤ i
  case neg =>
    rw [if_neg h2]
    simp (disch := first | assumption | omega) only [↓b_hid, bH_some, ↓hid_W, W_some, I3_a, I3_s, I3_m, I3_n, I3_l, I3_lt, I3_le, I3_e, I3_dv, I3_rm, I3_mx, I3_mn, I3_ab, cI, bI_0, bI_1, rZ_b, up_same, up_row, up_col, xr_some, LQ_r, LQ_l, Int.sub_self, Int.add_zero, Int.zero_add, Int.sub_zero, Int.neg_neg, not_true_eq_false, not_false_eq_true, Int.add_sub_cancel, ↓ite_iH, iH_t, iH_f, bH_iH, ↓bH_bind, xr_iH, ↓xr_bind, W_iH, WI_t, WI_f, g_isSlot, bI_t, iH_pos, iH_neg, WI_pos, WI_neg]
    exact ⟨z, l, rfl, FrX_r z⟩
  rw [if_pos h2]
  by_cases h3 : 0 ≤ w ∧ w ≤ 4
  case neg =>
    rw [if_neg h3]
    simp (disch := first | assumption | omega) only [↓b_hid, bH_some, ↓hid_W, W_some, I3_a, I3_s, I3_m, I3_n, I3_l, I3_lt, I3_le, I3_e, I3_dv, I3_rm, I3_mx, I3_mn, I3_ab, cI, bI_0, bI_1, rZ_b, up_same, up_row, up_col, xr_some, LQ_r, LQ_l, Int.sub_self, Int.add_zero, Int.zero_add, Int.sub_zero, Int.neg_neg, not_true_eq_false, not_false_eq_true, Int.add_sub_cancel, ↓ite_iH, iH_t, iH_f, bH_iH, ↓bH_bind, xr_iH, ↓xr_bind, W_iH, WI_t, WI_f, g_isSlot, bI_t, g_inRange, bI_f, iH_pos, iH_neg, WI_pos, WI_neg]
    exact ⟨z, l, rfl, FrX_r z⟩
  rw [if_pos h3]
  have hs3 : s.toNat < 3 := by omega
  have ht := σ_tr hV hs3
  simp (disch := first | assumption | omega) only [↓b_hid, bH_some, ↓hid_W, W_some, I3_a, I3_s, I3_m, I3_n, I3_l, I3_lt, I3_le, I3_e, I3_dv, I3_rm, I3_mx, I3_mn, I3_ab, cI, bI_0, bI_1, rZ_b, up_same, up_row, up_col, xr_some, LQ_r, LQ_l, Int.sub_self, Int.add_zero, Int.zero_add, Int.sub_zero, Int.neg_neg, not_true_eq_false, not_false_eq_true, Int.add_sub_cancel, ↓ite_iH, iH_t, iH_f, bH_iH, ↓bH_bind, xr_iH, ↓xr_bind, W_iH, WI_t, WI_f, aR_34, aR_19, sR_19, gR_0_0, pR_0, gI_0, pI_0, iO_0, gR_0_1, gR_0_3, gR_0_4, gR_0_5, gR_0_6, gR_0_7, gR_0_8, gR_0_9, gR_0_10, gR_0_11, gI_B, pI_B, iO_B, gR_B0, gR_B1, aR_B, g_isSlot, bI_t, g_inRange, g_trAt, gR_0_7, iO_35, eg, iH_pos, iH_neg, WI_pos, WI_neg]
  refine W_bH (W_imp (c_split (s := s.toNat) hb hV hS hs3) ?_)
  rintro _ ⟨z1, rfl, a1, a2⟩
  have e : z1 35 2 = (Lσ σ s.toNat).length := a1.2.1
  have hlen := FS_len (d := dσ σ s.toNat) (gap := σ 0) ht.1.1 ht.1.2
  have hlen : (Lσ σ s.toNat).length ≤ 100 := hlen
  have hX1 : FrX z z1 := fun k hk => a2 k (by omega)
  by_cases h4 : i < (Lσ σ s.toNat).length
  case neg =>
    rw [if_neg h4]
    simp (disch := first | assumption | omega) only [↓b_hid, bH_some, ↓hid_W, W_some, I3_a, I3_s, I3_m, I3_n, I3_l, I3_lt, I3_le, I3_e, I3_dv, I3_rm, I3_mx, I3_mn, I3_ab, cI, bI_0, bI_1, rZ_b, up_same, up_row, up_col, xr_some, LQ_r, LQ_l, Int.sub_self, Int.add_zero, Int.zero_add, Int.sub_zero, Int.neg_neg, not_true_eq_false, not_false_eq_true, Int.add_sub_cancel, ↓ite_iH, iH_t, iH_f, bH_iH, ↓bH_bind, xr_iH, ↓xr_bind, W_iH, WI_t, WI_f, aR_34, aR_19, sR_19, gR_0_0, pR_0, gI_0, pI_0, iO_0, gR_0_1, gR_0_3, gR_0_4, gR_0_5, gR_0_6, gR_0_7, gR_0_8, gR_0_9, gR_0_10, gR_0_11, gI_35, pI_35, iO_35, gR_35_0, aI_36, sI_36, gR_35_1, aI_37, sI_37, gR_35_3, gR_0_7, e, iH_pos, iH_neg, WI_pos, WI_neg]
    exact ⟨z1, l, rfl, hX1⟩
  rw [if_pos h4]
  have hii : i = ((i.toNat : Nat) : Int) := by omega
  have hlt : i.toNat < (FS (dσ σ s.toNat) (σ (83 + s.toNat)) (σ 0)).length := by
    have : i.toNat < (Lσ σ s.toNat).length := by omega
    exact this
  generalize i.toNat = n at *
  subst hii
  by_cases w0 : w = 0
  · have gs := g_startOf (p := p) (l := l) (i := n) a1 ht.1.1 ht.1.2 hlt
    rw [if_pos w0]
    simp (disch := first | assumption | omega) only [↓b_hid, bH_some, ↓hid_W, W_some, I3_a, I3_s, I3_m, I3_n, I3_l, I3_lt, I3_le, I3_e, I3_dv, I3_rm, I3_mx, I3_mn, I3_ab, cI, bI_0, bI_1, rZ_b, up_same, up_row, up_col, xr_some, LQ_r, LQ_l, Int.sub_self, Int.add_zero, Int.zero_add, Int.sub_zero, Int.neg_neg, not_true_eq_false, not_false_eq_true, Int.add_sub_cancel, ↓ite_iH, iH_t, iH_f, bH_iH, ↓bH_bind, xr_iH, ↓xr_bind, W_iH, WI_t, WI_f, aR_34, aR_19, sR_19, gR_0_0, pR_0, gI_0, pI_0, iO_0, gR_0_1, gR_0_3, gR_0_4, gR_0_5, gR_0_6, gR_0_7, gR_0_8, gR_0_9, gR_0_10, gR_0_11, gI_35, pI_35, iO_35, gR_35_0, aI_36, sI_36, gR_35_1, aI_37, sI_37, gR_35_3, gR_0_7, e, gs, iH_pos, iH_neg, WI_pos, WI_neg]
    exact ⟨z1, l, rfl, hX1⟩
  by_cases w1 : w = 1
  · have gs := g_sizeOf (p := p) (l := l) (i := n) a1 ht.1.1 ht.1.2 hlt
    rw [if_neg w0, if_pos w1]
    simp (disch := first | assumption | omega) only [↓b_hid, bH_some, ↓hid_W, W_some, I3_a, I3_s, I3_m, I3_n, I3_l, I3_lt, I3_le, I3_e, I3_dv, I3_rm, I3_mx, I3_mn, I3_ab, cI, bI_0, bI_1, rZ_b, up_same, up_row, up_col, xr_some, LQ_r, LQ_l, Int.sub_self, Int.add_zero, Int.zero_add, Int.sub_zero, Int.neg_neg, not_true_eq_false, not_false_eq_true, Int.add_sub_cancel, ↓ite_iH, iH_t, iH_f, bH_iH, ↓bH_bind, xr_iH, ↓xr_bind, W_iH, WI_t, WI_f, aR_34, aR_19, sR_19, gR_0_0, pR_0, gI_0, pI_0, iO_0, gR_0_1, gR_0_3, gR_0_4, gR_0_5, gR_0_6, gR_0_7, gR_0_8, gR_0_9, gR_0_10, gR_0_11, gI_35, pI_35, iO_35, gR_35_0, aI_36, sI_36, gR_35_1, aI_37, sI_37, gR_35_3, gR_0_7, e, gs, iH_pos, iH_neg, WI_pos, WI_neg]
    exact ⟨z1, l, rfl, hX1⟩
  have hS1 : St z1 (p 0) σ := FrX_S hb hV hX1 hS
  have etol : z1 (p 0) 4 = σ 2 := hS1.1.2.2
  rw [if_neg w0, if_neg w1]
  simp (disch := first | assumption | omega) only [↓b_hid, bH_some, ↓hid_W, W_some, I3_a, I3_s, I3_m, I3_n, I3_l, I3_lt, I3_le, I3_e, I3_dv, I3_rm, I3_mx, I3_mn, I3_ab, cI, bI_0, bI_1, rZ_b, up_same, up_row, up_col, xr_some, LQ_r, LQ_l, Int.sub_self, Int.add_zero, Int.zero_add, Int.sub_zero, Int.neg_neg, not_true_eq_false, not_false_eq_true, Int.add_sub_cancel, ↓ite_iH, iH_t, iH_f, bH_iH, ↓bH_bind, xr_iH, ↓xr_bind, W_iH, WI_t, WI_f, aR_34, aR_19, sR_19, gR_0_0, pR_0, gI_0, pI_0, iO_0, gR_0_1, gR_0_3, gR_0_4, gR_0_5, gR_0_6, gR_0_7, gR_0_8, gR_0_9, gR_0_10, gR_0_11, gI_B, pI_B, iO_B, gR_B0, gR_B1, aR_B, gI_35, pI_35, iO_35, gR_35_0, aI_36, sI_36, gR_35_1, aI_37, sI_37, gR_35_3, gR_0_7, gR_0_8, e, iO_40, etol, iH_pos, iH_neg, WI_pos, WI_neg]
  refine W_bH (W_imp (c_decode (i := n) (tol := σ 2) hb hV hS1 a1 ht.1.1 ht.1.2 hlt hV.2.2.1 (fun c c0 c1 => by have := ht.2 c c0 c1; omega)) ?_)
  rintro _ ⟨z6, l6, rfl, g1, g2, g3, g4⟩
  have g1 : z6 40 0 = (frD σ s.toNat n).1 := g1
  have g2 : z6 40 1 = (frD σ s.toNat n).2 := g2
  have hX6 : FrX z z6 := FrX_t hX1 (fun k hk => g3 k (by omega) (by omega))
  have hdr := frD_r hV s.toNat n
  have hv3 := hV.2.2.2.1
  by_cases w2 : w = 2
  · rw [if_pos w2]
    simp (disch := first | assumption | omega) only [↓b_hid, bH_some, ↓hid_W, W_some, I3_a, I3_s, I3_m, I3_n, I3_l, I3_lt, I3_le, I3_e, I3_dv, I3_rm, I3_mx, I3_mn, I3_ab, cI, bI_0, bI_1, rZ_b, up_same, up_row, up_col, xr_some, LQ_r, LQ_l, Int.sub_self, Int.add_zero, Int.zero_add, Int.sub_zero, Int.neg_neg, not_true_eq_false, not_false_eq_true, Int.add_sub_cancel, ↓ite_iH, iH_t, iH_f, bH_iH, ↓bH_bind, xr_iH, ↓xr_bind, W_iH, WI_t, WI_f, aR_34, aR_19, sR_19, gR_0_0, pR_0, gI_0, pI_0, iO_0, gR_0_1, gR_0_3, gR_0_4, gR_0_5, gR_0_6, gR_0_7, gR_0_8, gR_0_9, gR_0_10, gR_0_11, gI_40, pI_40, iO_40, gR_40_2, aI_41, sI_41, gR_40_5, f_X11_frame_128, gR_0_8, g1, iH_pos, iH_neg, WI_pos, WI_neg]
    exact ⟨z6, l6, rfl, hX6⟩
  rw [if_neg w2]
  have gd := g_isDec (p := p) (l := l6) g1 (by omega)
  have gc := g_isCod (p := p) (l := l6) g2 (by omega)
  by_cases hd : (frD σ s.toNat n).1 = -9
  · have hd2 : (frD σ s.toNat n).2 = -9 := by omega
    rw [bI_f (fun h => h hd)] at gd
    rw [hd] at g1 ⊢
    rw [hd2]
    by_cases w3 : w = 3
    · rw [if_pos w3]
      simp (disch := first | assumption | omega) only [↓b_hid, bH_some, ↓hid_W, W_some, I3_a, I3_s, I3_m, I3_n, I3_l, I3_lt, I3_le, I3_e, I3_dv, I3_rm, I3_mx, I3_mn, I3_ab, cI, bI_0, bI_1, rZ_b, up_same, up_row, up_col, xr_some, LQ_r, LQ_l, Int.sub_self, Int.add_zero, Int.zero_add, Int.sub_zero, Int.neg_neg, not_true_eq_false, not_false_eq_true, Int.add_sub_cancel, ↓ite_iH, iH_t, iH_f, bH_iH, ↓bH_bind, xr_iH, ↓xr_bind, W_iH, WI_t, WI_f, aR_34, aR_19, sR_19, gR_0_0, pR_0, gI_0, pI_0, iO_0, gR_0_1, gR_0_3, gR_0_4, gR_0_5, gR_0_6, gR_0_7, gR_0_8, gR_0_9, gR_0_10, gR_0_11, gI_40, pI_40, iO_40, gR_40_2, aI_41, sI_41, gR_40_5, f_X11_frame_128, gR_0_8, g1, gd, iH_pos, iH_neg, WI_pos, WI_neg]
      exact ⟨z6, l6, rfl, hX6⟩
    · rw [if_neg w3, if_pos rfl]
      simp (disch := first | assumption | omega) only [↓b_hid, bH_some, ↓hid_W, W_some, I3_a, I3_s, I3_m, I3_n, I3_l, I3_lt, I3_le, I3_e, I3_dv, I3_rm, I3_mx, I3_mn, I3_ab, cI, bI_0, bI_1, rZ_b, up_same, up_row, up_col, xr_some, LQ_r, LQ_l, Int.sub_self, Int.add_zero, Int.zero_add, Int.sub_zero, Int.neg_neg, not_true_eq_false, not_false_eq_true, Int.add_sub_cancel, ↓ite_iH, iH_t, iH_f, bH_iH, ↓bH_bind, xr_iH, ↓xr_bind, W_iH, WI_t, WI_f, aR_34, aR_19, sR_19, gR_0_0, pR_0, gI_0, pI_0, iO_0, gR_0_1, gR_0_3, gR_0_4, gR_0_5, gR_0_6, gR_0_7, gR_0_8, gR_0_9, gR_0_10, gR_0_11, gI_40, pI_40, iO_40, gR_40_2, aI_41, sI_41, gR_40_5, f_X11_frame_128, gR_0_8, g1, gd, iH_pos, iH_neg, WI_pos, WI_neg]
      exact ⟨z6, l6, rfl, hX6⟩
  · rw [bI_t hd] at gd
    by_cases w3 : w = 3
    · rw [if_pos w3]
      simp (disch := first | assumption | omega) only [↓b_hid, bH_some, ↓hid_W, W_some, I3_a, I3_s, I3_m, I3_n, I3_l, I3_lt, I3_le, I3_e, I3_dv, I3_rm, I3_mx, I3_mn, I3_ab, cI, bI_0, bI_1, rZ_b, up_same, up_row, up_col, xr_some, LQ_r, LQ_l, Int.sub_self, Int.add_zero, Int.zero_add, Int.sub_zero, Int.neg_neg, not_true_eq_false, not_false_eq_true, Int.add_sub_cancel, ↓ite_iH, iH_t, iH_f, bH_iH, ↓bH_bind, xr_iH, ↓xr_bind, W_iH, WI_t, WI_f, aR_34, aR_19, sR_19, gR_0_0, pR_0, gI_0, pI_0, iO_0, gR_0_1, gR_0_3, gR_0_4, gR_0_5, gR_0_6, gR_0_7, gR_0_8, gR_0_9, gR_0_10, gR_0_11, gI_40, pI_40, iO_40, gR_40_2, aI_41, sI_41, gR_40_5, gR_0_8, g2, gd, iH_pos, iH_neg, WI_pos, WI_neg]
      exact ⟨z6, l6, rfl, hX6⟩
    · rw [if_neg w3, if_neg hd]
      by_cases hc : (frD σ s.toNat n).2 = -9
      · rw [bI_f (fun h => h hc)] at gc
        rw [if_pos hc]
        simp (disch := first | assumption | omega) only [↓b_hid, bH_some, ↓hid_W, W_some, I3_a, I3_s, I3_m, I3_n, I3_l, I3_lt, I3_le, I3_e, I3_dv, I3_rm, I3_mx, I3_mn, I3_ab, cI, bI_0, bI_1, rZ_b, up_same, up_row, up_col, xr_some, LQ_r, LQ_l, Int.sub_self, Int.add_zero, Int.zero_add, Int.sub_zero, Int.neg_neg, not_true_eq_false, not_false_eq_true, Int.add_sub_cancel, ↓ite_iH, iH_t, iH_f, bH_iH, ↓bH_bind, xr_iH, ↓xr_bind, W_iH, WI_t, WI_f, aR_34, aR_19, sR_19, gR_0_0, pR_0, gI_0, pI_0, iO_0, gR_0_1, gR_0_3, gR_0_4, gR_0_5, gR_0_6, gR_0_7, gR_0_8, gR_0_9, gR_0_10, gR_0_11, gI_40, pI_40, iO_40, gR_40_2, aI_41, sI_41, gR_40_5, gR_0_8, gc, gd, iH_pos, iH_neg, WI_pos, WI_neg]
        exact ⟨z6, l6, rfl, hX6⟩
      · rw [bI_t hc] at gc
        rw [if_neg hc]
        simp (disch := first | assumption | omega) only [↓b_hid, bH_some, ↓hid_W, W_some, I3_a, I3_s, I3_m, I3_n, I3_l, I3_lt, I3_le, I3_e, I3_dv, I3_rm, I3_mx, I3_mn, I3_ab, cI, bI_0, bI_1, rZ_b, up_same, up_row, up_col, xr_some, LQ_r, LQ_l, Int.sub_self, Int.add_zero, Int.zero_add, Int.sub_zero, Int.neg_neg, not_true_eq_false, not_false_eq_true, Int.add_sub_cancel, ↓ite_iH, iH_t, iH_f, bH_iH, ↓bH_bind, xr_iH, ↓xr_bind, W_iH, WI_t, WI_f, aR_34, aR_19, sR_19, gR_0_0, pR_0, gI_0, pI_0, iO_0, gR_0_1, gR_0_3, gR_0_4, gR_0_5, gR_0_6, gR_0_7, gR_0_8, gR_0_9, gR_0_10, gR_0_11, gI_40, pI_40, iO_40, gR_40_2, aI_41, sI_41, gR_40_5, gR_0_8, gc, gd, iH_pos, iH_neg, WI_pos, WI_neg]
        exact ⟨z6, l6, rfl, hX6⟩
