/-! send(), sendShort(): both sides. -/
theorem Gd_frm {f : Int → Int} (c : Int) (hf : PV f) : Gd (frm f c) ∧ 3 ≤ (frm f c).1 ∧ (frm f c).1 ≤ 35 := by
  obtain ⟨a, b, c', d⟩ := frm_r c hf
  refine ⟨⟨by omega, fun i i0 i1 => ?_⟩, b, c'⟩
  have := a i i0 i1
  omega
theorem Gd_frs {f : Int → Int} (hf : PV f) : Gd (frs f) ∧ 3 ≤ (frs f).1 ∧ (frs f).1 ≤ 35 := by
  obtain ⟨p0, p1, p2, p3, p4⟩ := hf
  have e1 : (frs f).1 = 3 := rfl
  refine ⟨⟨by omega, fun i i0 i1 => ?_⟩, by omega, by omega⟩
  rw [e1] at i1
  have : (frs f).2 i = if i = 2 then f 3 else if i = 1 then f 2 / 2 else if i = 0 then f 1 else 0 := rfl
  rw [this]
  split
  · omega
  · split
    · omega
    · split <;> omega
/-- the frame of a code -/
def frC (σ : Int → Int) (q c : Int) : Dn := frm (Fσ σ q.toNat) c
def frH (σ : Int → Int) (q : Int) : Dn := frs (Fσ σ q.toNat)
def A_send (σ : Int → Int) (s q c sp : Int) : Int := if 0 ≤ s ∧ s ≤ 2 then (if 0 ≤ q ∧ q < σ 3 then (if 0 ≤ c ∧ c < pw (Fσ σ q.toNat 6) then (if 1 ≤ sp ∧ sp ≤ 60000 then A_snd σ s.toNat (frC σ q c) else -1) else -1) else -1) else -1
def G_send (σ : Int → Int) (s q c sp : Int) : Prop := (0 ≤ s ∧ s ≤ 2) ∧ (0 ≤ q ∧ q < σ 3) ∧ (0 ≤ c ∧ c < pw (Fσ σ q.toNat 6)) ∧ (1 ≤ sp ∧ sp ≤ 60000) ∧ G_snd σ s.toNat (frC σ q c)
set_option maxHeartbeats 4000000 in
theorem x_send {s : Int} (hs : -2147483648 ≤ s ∧ s < 2147483648) {q : Int} (hq : -2147483648 ≤ q ∧ q < 2147483648) {c : Int} (hc : -2147483648 ≤ c ∧ c < 2147483648) {sp : Int} (hsp : -2147483648 ≤ sp ∧ sp < 2147483648) : CC (f_X11_send 0 (I3 s) (I3 q) (I3 c) (I3 sp)) (fun σ => A_send σ s q c sp) (fun σ => G_send σ s q c sp) (fun σ => tσ σ s.toNat (sdT σ s.toNat sp (frC σ q c))) := by
  intro p z l σ n h hp hV hS h0 h6 hH
  dsimp only
  have hb := hp.1 0 (by omega)
  have hrB := isB_r hb
  have hTb := isTb_B hb
  obtain ⟨⟨e1, e4⟩, v3, v58⟩ := c_tb hV hS
  unfold f_X11_send A_send G_send
  by_cases h1 : 0 ≤ s ∧ s ≤ 2
  case neg =>
    simp only [if_neg h1]
    simp (disch := first | assumption | omega) only [↓b_hid, bH_some, ↓hid_W, W_some, I3_a, I3_s, I3_m, I3_n, I3_l, I3_lt, I3_le, I3_e, I3_dv, I3_rm, I3_mx, I3_mn, I3_ab, cI, bI_0, bI_1, rZ_b, up_same, up_row, up_col, xr_some, LQ_r, LQ_l, Int.sub_self, Int.add_zero, Int.zero_add, Int.sub_zero, Int.neg_neg, not_true_eq_false, not_false_eq_true, Int.add_sub_cancel, ↓ite_iH, iH_t, iH_f, bH_iH, ↓bH_bind, xr_iH, ↓xr_bind, W_iH, WI_t, WI_f, g_isSlot, bI_f, iH_pos, iH_neg, WI_pos, WI_neg]
    exact ⟨p, z, l, rfl, Or.inr ⟨fun hg => h1 hg.1, rfl, FrX_r z⟩⟩
  have gh := g_hasP (p := p) (z := z) (l := l) (i := q) hTb (by omega) (by omega) hq.1 hq.2
  rw [e1] at gh
  by_cases h2 : 0 ≤ q ∧ q < σ 3
  case neg =>
    rw [bI_f h2] at gh
    simp only [if_pos h1, if_neg h2]
    simp (disch := first | assumption | omega) only [↓b_hid, bH_some, ↓hid_W, W_some, I3_a, I3_s, I3_m, I3_n, I3_l, I3_lt, I3_le, I3_e, I3_dv, I3_rm, I3_mx, I3_mn, I3_ab, cI, bI_0, bI_1, rZ_b, up_same, up_row, up_col, xr_some, LQ_r, LQ_l, Int.sub_self, Int.add_zero, Int.zero_add, Int.sub_zero, Int.neg_neg, not_true_eq_false, not_false_eq_true, Int.add_sub_cancel, ↓ite_iH, iH_t, iH_f, bH_iH, ↓bH_bind, xr_iH, ↓xr_bind, W_iH, WI_t, WI_f, aR_34, aR_19, sR_19, gR_0_0, pR_0, gI_0, pI_0, iO_0, gR_0_1, gR_0_3, gR_0_4, gR_0_5, gR_0_6, gR_0_7, gR_0_8, gR_0_9, gR_0_10, gR_0_11, gI_B, pI_B, iO_B, gR_B0, gR_B1, aR_B, g_isSlot, bI_t, iO_Tb, gh, iH_pos, iH_neg, WI_pos, WI_neg]
    exact ⟨p, z, l, rfl, Or.inr ⟨fun hg => h2 hg.2.1, rfl, FrX_r z⟩⟩
  rw [bI_t h2] at gh
  obtain ⟨c1, c2, c3⟩ := c_pr (q := q.toNat) hV hS (by omega)
  have hP := isP_T hTb (i := q.toNat) (by omega)
  have gA := g_pAt (p := p) (z := z) (l := l) (i := q) hTb (by omega) (by omega)
  have p6 := c2.2.2.2.2.2.1
  have e6 : z (p 0 + 1 + 4 + q.toNat) 6 = Fσ σ q.toNat 6 := c1 6 (by decide) (by decide)
  have gC := g_hasC (p := p) (z := z) (l := l) (c := c) hP (by omega) (by omega) hc.1 hc.2
  rw [e6] at gC
  by_cases h3 : 0 ≤ c ∧ c < pw (Fσ σ q.toNat 6)
  case neg =>
    rw [bI_f h3] at gC
    simp only [if_pos h1, if_pos h2, if_neg h3]
    generalize p 0 + 1 + 4 + q.toNat = Q0 at *
    simp (disch := first | assumption | omega) only [↓b_hid, bH_some, ↓hid_W, W_some, I3_a, I3_s, I3_m, I3_n, I3_l, I3_lt, I3_le, I3_e, I3_dv, I3_rm, I3_mx, I3_mn, I3_ab, cI, bI_0, bI_1, rZ_b, up_same, up_row, up_col, xr_some, LQ_r, LQ_l, Int.sub_self, Int.add_zero, Int.zero_add, Int.sub_zero, Int.neg_neg, not_true_eq_false, not_false_eq_true, Int.add_sub_cancel, ↓ite_iH, iH_t, iH_f, bH_iH, ↓bH_bind, xr_iH, ↓xr_bind, W_iH, WI_t, WI_f, aR_34, aR_19, sR_19, gR_0_0, pR_0, gI_0, pI_0, iO_0, gR_0_1, gR_0_3, gR_0_4, gR_0_5, gR_0_6, gR_0_7, gR_0_8, gR_0_9, gR_0_10, gR_0_11, gI_B, pI_B, iO_B, gR_B0, gR_B1, aR_B, g_isSlot, bI_t, iO_Tb, gh, gA, iO_P, gC, iH_pos, iH_neg, WI_pos, WI_neg]
    exact ⟨p, z, l, rfl, Or.inr ⟨fun hg => h3 hg.2.2.1, rfl, FrX_r z⟩⟩
  rw [bI_t h3] at gC
  by_cases h4 : 1 ≤ sp ∧ sp ≤ 60000
  case neg =>
    simp only [if_pos h1, if_pos h2, if_pos h3, if_neg h4]
    generalize p 0 + 1 + 4 + q.toNat = Q0 at *
    simp (disch := first | assumption | omega) only [↓b_hid, bH_some, ↓hid_W, W_some, I3_a, I3_s, I3_m, I3_n, I3_l, I3_lt, I3_le, I3_e, I3_dv, I3_rm, I3_mx, I3_mn, I3_ab, cI, bI_0, bI_1, rZ_b, up_same, up_row, up_col, xr_some, LQ_r, LQ_l, Int.sub_self, Int.add_zero, Int.zero_add, Int.sub_zero, Int.neg_neg, not_true_eq_false, not_false_eq_true, Int.add_sub_cancel, ↓ite_iH, iH_t, iH_f, bH_iH, ↓bH_bind, xr_iH, ↓xr_bind, W_iH, WI_t, WI_f, aR_34, aR_19, sR_19, gR_0_0, pR_0, gI_0, pI_0, iO_0, gR_0_1, gR_0_3, gR_0_4, gR_0_5, gR_0_6, gR_0_7, gR_0_8, gR_0_9, gR_0_10, gR_0_11, gI_B, pI_B, iO_B, gR_B0, gR_B1, aR_B, g_isSlot, bI_t, iO_Tb, gh, gA, iO_P, gC, g_inRange, bI_f, iH_pos, iH_neg, WI_pos, WI_neg]
    exact ⟨p, z, l, rfl, Or.inr ⟨fun hg => h4 hg.2.2.2.1, rfl, FrX_r z⟩⟩
  simp only [if_pos h1, if_pos h2, if_pos h3, if_pos h4]
  have hx0 : frm (z (p 0 + 1 + 4 + q.toNat)) c = frC σ q c := frm_c c1 c
  have hw := w_writeFrame (p := p) (z := z) (l := l) (t := 32) (q := p 0 + 1 + 4 + q.toNat) (c := c) (f := z (p 0 + 1 + 4 + q.toNat)) isT_32 hP (by omega) (by omega) rfl h3.1 c3
  rw [hx0] at hw
  have hgx := Gd_frm c c2
  have hgx : Gd (frC σ q c) ∧ 3 ≤ (frC σ q c).1 ∧ (frC σ q c).1 ≤ 35 := hgx
  generalize p 0 + 1 + 4 + q.toNat = Q0 at *
  simp (disch := first | assumption | omega) only [↓b_hid, bH_some, ↓hid_W, W_some, I3_a, I3_s, I3_m, I3_n, I3_l, I3_lt, I3_le, I3_e, I3_dv, I3_rm, I3_mx, I3_mn, I3_ab, cI, bI_0, bI_1, rZ_b, up_same, up_row, up_col, xr_some, LQ_r, LQ_l, Int.sub_self, Int.add_zero, Int.zero_add, Int.sub_zero, Int.neg_neg, not_true_eq_false, not_false_eq_true, Int.add_sub_cancel, ↓ite_iH, iH_t, iH_f, bH_iH, ↓bH_bind, xr_iH, ↓xr_bind, W_iH, WI_t, WI_f, aR_34, aR_19, sR_19, gR_0_0, pR_0, gI_0, pI_0, iO_0, gR_0_1, gR_0_3, gR_0_4, gR_0_5, gR_0_6, gR_0_7, gR_0_8, gR_0_9, gR_0_10, gR_0_11, gI_B, pI_B, iO_B, gR_B0, gR_B1, aR_B, g_isSlot, bI_t, iO_Tb, gh, gA, iO_P, gC, g_inRange, gR_0_5, iH_pos, iH_neg, WI_pos, WI_neg]
  refine W_bH (W_imp hw ?_)
  rintro _ ⟨z1, rfl, a1, a2⟩
  have hX : FrX z z1 := fun k hk => a2 k (by omega) (by omega)
  have hS1 : St z1 (p 0) σ := FrX_S hb hV hX hS
  have hH1 : Hs z1 p n h := Hs_X hp h6 (fun k hk => hX k (by omega)) hH
  simp (disch := first | assumption | omega) only [↓b_hid, bH_some, ↓hid_W, W_some, I3_a, I3_s, I3_m, I3_n, I3_l, I3_lt, I3_le, I3_e, I3_dv, I3_rm, I3_mx, I3_mn, I3_ab, cI, bI_0, bI_1, rZ_b, up_same, up_row, up_col, xr_some, LQ_r, LQ_l, Int.sub_self, Int.add_zero, Int.zero_add, Int.sub_zero, Int.neg_neg, not_true_eq_false, not_false_eq_true, Int.add_sub_cancel, ↓ite_iH, iH_t, iH_f, bH_iH, ↓bH_bind, xr_iH, ↓xr_bind, W_iH, WI_t, WI_f, aR_34, aR_19, sR_19, gR_0_0, pR_0, gI_0, pI_0, iO_0, gR_0_1, gR_0_3, gR_0_4, gR_0_5, gR_0_6, gR_0_7, gR_0_8, gR_0_9, gR_0_10, gR_0_11, gI_B, pI_B, iO_B, gR_B0, gR_B1, aR_B, g_trAt, iO_0]
  refine W_bH (W_imp (w_appS (s := s.toNat) (sp := sp) (n := n) (by omega) h4 hp hV hS1 h0 h6 hH1 a1 ⟨hgx.2.1, hgx.2.2⟩ hgx.1) ?_)
  rintro _ ⟨p', z2, rfl, b⟩
  simp (disch := first | assumption | omega) only [↓b_hid, bH_some, ↓hid_W, W_some, I3_a, I3_s, I3_m, I3_n, I3_l, I3_lt, I3_le, I3_e, I3_dv, I3_rm, I3_mx, I3_mn, I3_ab, cI, bI_0, bI_1, rZ_b, up_same, up_row, up_col, xr_some, LQ_r, LQ_l, Int.sub_self, Int.add_zero, Int.zero_add, Int.sub_zero, Int.neg_neg, not_true_eq_false, not_false_eq_true, Int.add_sub_cancel, ↓ite_iH, iH_t, iH_f, bH_iH, ↓bH_bind, xr_iH, ↓xr_bind, W_iH, WI_t, WI_f]
  refine ⟨p', z2, l, rfl, ?_⟩
  rcases b with ⟨b1, b2⟩ | ⟨b1, b2, b3⟩
  · exact Or.inl ⟨⟨h1, h2, h3, h4, b1⟩, CX_0 hX b2⟩
  · exact Or.inr ⟨fun hg => b1 hg.2.2.2.2, b2, by rw [b3]; exact hX⟩
def A_sendS (σ : Int → Int) (s q sp : Int) : Int := if 0 ≤ s ∧ s ≤ 2 then (if 0 ≤ q ∧ q < σ 3 then (if 1 ≤ sp ∧ sp ≤ 60000 then A_snd σ s.toNat (frH σ q) else -1) else -1) else -1
def G_sendS (σ : Int → Int) (s q sp : Int) : Prop := (0 ≤ s ∧ s ≤ 2) ∧ (0 ≤ q ∧ q < σ 3) ∧ (1 ≤ sp ∧ sp ≤ 60000) ∧ G_snd σ s.toNat (frH σ q)
set_option maxHeartbeats 4000000 in
theorem x_sendShort {s : Int} (hs : -2147483648 ≤ s ∧ s < 2147483648) {q : Int} (hq : -2147483648 ≤ q ∧ q < 2147483648) {sp : Int} (hsp : -2147483648 ≤ sp ∧ sp < 2147483648) : CC (f_X11_sendShort 0 (I3 s) (I3 q) (I3 sp)) (fun σ => A_sendS σ s q sp) (fun σ => G_sendS σ s q sp) (fun σ => tσ σ s.toNat (sdT σ s.toNat sp (frH σ q))) := by
  intro p z l σ n h hp hV hS h0 h6 hH
  dsimp only
  have hb := hp.1 0 (by omega)
  have hrB := isB_r hb
  have hTb := isTb_B hb
  obtain ⟨⟨e1, e4⟩, v3, v58⟩ := c_tb hV hS
  unfold f_X11_sendShort A_sendS G_sendS
  by_cases h1 : 0 ≤ s ∧ s ≤ 2
  case neg =>
    simp only [if_neg h1]
    simp (disch := first | assumption | omega) only [↓b_hid, bH_some, ↓hid_W, W_some, I3_a, I3_s, I3_m, I3_n, I3_l, I3_lt, I3_le, I3_e, I3_dv, I3_rm, I3_mx, I3_mn, I3_ab, cI, bI_0, bI_1, rZ_b, up_same, up_row, up_col, xr_some, LQ_r, LQ_l, Int.sub_self, Int.add_zero, Int.zero_add, Int.sub_zero, Int.neg_neg, not_true_eq_false, not_false_eq_true, Int.add_sub_cancel, ↓ite_iH, iH_t, iH_f, bH_iH, ↓bH_bind, xr_iH, ↓xr_bind, W_iH, WI_t, WI_f, g_isSlot, bI_f, iH_pos, iH_neg, WI_pos, WI_neg]
    exact ⟨p, z, l, rfl, Or.inr ⟨fun hg => h1 hg.1, rfl, FrX_r z⟩⟩
  have gh := g_hasP (p := p) (z := z) (l := l) (i := q) hTb (by omega) (by omega) hq.1 hq.2
  rw [e1] at gh
  by_cases h2 : 0 ≤ q ∧ q < σ 3
  case neg =>
    rw [bI_f h2] at gh
    simp only [if_pos h1, if_neg h2]
    simp (disch := first | assumption | omega) only [↓b_hid, bH_some, ↓hid_W, W_some, I3_a, I3_s, I3_m, I3_n, I3_l, I3_lt, I3_le, I3_e, I3_dv, I3_rm, I3_mx, I3_mn, I3_ab, cI, bI_0, bI_1, rZ_b, up_same, up_row, up_col, xr_some, LQ_r, LQ_l, Int.sub_self, Int.add_zero, Int.zero_add, Int.sub_zero, Int.neg_neg, not_true_eq_false, not_false_eq_true, Int.add_sub_cancel, ↓ite_iH, iH_t, iH_f, bH_iH, ↓bH_bind, xr_iH, ↓xr_bind, W_iH, WI_t, WI_f, aR_34, aR_19, sR_19, gR_0_0, pR_0, gI_0, pI_0, iO_0, gR_0_1, gR_0_3, gR_0_4, gR_0_5, gR_0_6, gR_0_7, gR_0_8, gR_0_9, gR_0_10, gR_0_11, gI_B, pI_B, iO_B, gR_B0, gR_B1, aR_B, g_isSlot, bI_t, iO_Tb, gh, iH_pos, iH_neg, WI_pos, WI_neg]
    exact ⟨p, z, l, rfl, Or.inr ⟨fun hg => h2 hg.2.1, rfl, FrX_r z⟩⟩
  rw [bI_t h2] at gh
  by_cases h4 : 1 ≤ sp ∧ sp ≤ 60000
  case neg =>
    simp only [if_pos h1, if_pos h2, if_neg h4]
    simp (disch := first | assumption | omega) only [↓b_hid, bH_some, ↓hid_W, W_some, I3_a, I3_s, I3_m, I3_n, I3_l, I3_lt, I3_le, I3_e, I3_dv, I3_rm, I3_mx, I3_mn, I3_ab, cI, bI_0, bI_1, rZ_b, up_same, up_row, up_col, xr_some, LQ_r, LQ_l, Int.sub_self, Int.add_zero, Int.zero_add, Int.sub_zero, Int.neg_neg, not_true_eq_false, not_false_eq_true, Int.add_sub_cancel, ↓ite_iH, iH_t, iH_f, bH_iH, ↓bH_bind, xr_iH, ↓xr_bind, W_iH, WI_t, WI_f, aR_34, aR_19, sR_19, gR_0_0, pR_0, gI_0, pI_0, iO_0, gR_0_1, gR_0_3, gR_0_4, gR_0_5, gR_0_6, gR_0_7, gR_0_8, gR_0_9, gR_0_10, gR_0_11, gI_B, pI_B, iO_B, gR_B0, gR_B1, aR_B, g_isSlot, bI_t, iO_Tb, gh, g_inRange, bI_f, iH_pos, iH_neg, WI_pos, WI_neg]
    exact ⟨p, z, l, rfl, Or.inr ⟨fun hg => h4 hg.2.2.1, rfl, FrX_r z⟩⟩
  simp only [if_pos h1, if_pos h2, if_pos h4]
  obtain ⟨c1, c2, c3⟩ := c_pr (q := q.toNat) hV hS (by omega)
  have hP := isP_T hTb (i := q.toNat) (by omega)
  have gA := g_pAt (p := p) (z := z) (l := l) (i := q) hTb (by omega) (by omega)
  have hx0 : frs (z (p 0 + 1 + 4 + q.toNat)) = frH σ q := frs_c c1
  have hw := w_writeShort (p := p) (z := z) (l := l) (t := 32) (q := p 0 + 1 + 4 + q.toNat) (f := z (p 0 + 1 + 4 + q.toNat)) isT_32 hP (by omega) (by omega) rfl c3
  rw [hx0] at hw
  have hgx : Gd (frH σ q) ∧ 3 ≤ (frH σ q).1 ∧ (frH σ q).1 ≤ 35 := Gd_frs c2
  generalize p 0 + 1 + 4 + q.toNat = Q0 at *
  simp (disch := first | assumption | omega) only [↓b_hid, bH_some, ↓hid_W, W_some, I3_a, I3_s, I3_m, I3_n, I3_l, I3_lt, I3_le, I3_e, I3_dv, I3_rm, I3_mx, I3_mn, I3_ab, cI, bI_0, bI_1, rZ_b, up_same, up_row, up_col, xr_some, LQ_r, LQ_l, Int.sub_self, Int.add_zero, Int.zero_add, Int.sub_zero, Int.neg_neg, not_true_eq_false, not_false_eq_true, Int.add_sub_cancel, ↓ite_iH, iH_t, iH_f, bH_iH, ↓bH_bind, xr_iH, ↓xr_bind, W_iH, WI_t, WI_f, aR_34, aR_19, sR_19, gR_0_0, pR_0, gI_0, pI_0, iO_0, gR_0_1, gR_0_3, gR_0_4, gR_0_5, gR_0_6, gR_0_7, gR_0_8, gR_0_9, gR_0_10, gR_0_11, gI_B, pI_B, iO_B, gR_B0, gR_B1, aR_B, g_isSlot, bI_t, iO_Tb, gh, gA, iO_P, g_inRange, gR_0_5, iH_pos, iH_neg, WI_pos, WI_neg]
  refine W_bH (W_imp hw ?_)
  rintro _ ⟨z1, rfl, a1, a2⟩
  have hX : FrX z z1 := fun k hk => a2 k (by omega) (by omega)
  have hS1 : St z1 (p 0) σ := FrX_S hb hV hX hS
  have hH1 : Hs z1 p n h := Hs_X hp h6 (fun k hk => hX k (by omega)) hH
  simp (disch := first | assumption | omega) only [↓b_hid, bH_some, ↓hid_W, W_some, I3_a, I3_s, I3_m, I3_n, I3_l, I3_lt, I3_le, I3_e, I3_dv, I3_rm, I3_mx, I3_mn, I3_ab, cI, bI_0, bI_1, rZ_b, up_same, up_row, up_col, xr_some, LQ_r, LQ_l, Int.sub_self, Int.add_zero, Int.zero_add, Int.sub_zero, Int.neg_neg, not_true_eq_false, not_false_eq_true, Int.add_sub_cancel, ↓ite_iH, iH_t, iH_f, bH_iH, ↓bH_bind, xr_iH, ↓xr_bind, W_iH, WI_t, WI_f, aR_34, aR_19, sR_19, gR_0_0, pR_0, gI_0, pI_0, iO_0, gR_0_1, gR_0_3, gR_0_4, gR_0_5, gR_0_6, gR_0_7, gR_0_8, gR_0_9, gR_0_10, gR_0_11, gI_B, pI_B, iO_B, gR_B0, gR_B1, aR_B, g_trAt, iO_0]
  refine W_bH (W_imp (w_appS (s := s.toNat) (sp := sp) (n := n) (by omega) h4 hp hV hS1 h0 h6 hH1 a1 ⟨hgx.2.1, hgx.2.2⟩ hgx.1) ?_)
  rintro _ ⟨p', z2, rfl, b⟩
  simp (disch := first | assumption | omega) only [↓b_hid, bH_some, ↓hid_W, W_some, I3_a, I3_s, I3_m, I3_n, I3_l, I3_lt, I3_le, I3_e, I3_dv, I3_rm, I3_mx, I3_mn, I3_ab, cI, bI_0, bI_1, rZ_b, up_same, up_row, up_col, xr_some, LQ_r, LQ_l, Int.sub_self, Int.add_zero, Int.zero_add, Int.sub_zero, Int.neg_neg, not_true_eq_false, not_false_eq_true, Int.add_sub_cancel, ↓ite_iH, iH_t, iH_f, bH_iH, ↓bH_bind, xr_iH, ↓xr_bind, W_iH, WI_t, WI_f]
  refine ⟨p', z2, l, rfl, ?_⟩
  rcases b with ⟨b1, b2⟩ | ⟨b1, b2, b3⟩
  · exact Or.inl ⟨⟨h1, h2, h4, b1⟩, CX_0 hX b2⟩
  · exact Or.inr ⟨fun hg => b1 hg.2.2.2, b2, by rw [b3]; exact hX⟩
