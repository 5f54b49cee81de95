/-! learn(): the class's side, the model's, and both. -/
noncomputable def A_learn (σ : Int → Int) (s : Int) : Int := if 0 ≤ s ∧ s ≤ 2 then cif (noL σ s.toNat) (-2) (cif (lnO σ s.toNat) (if σ 3 < 6 then σ 3 else -3) (-2)) else -1
def G_learn (σ : Int → Int) (s : Int) : Prop := (0 ≤ s ∧ s ≤ 2) ∧ ¬noL σ s.toNat ∧ lnO σ s.toNat ∧ σ 3 < 6
section
variable {p : Nat → Nat} {z l : Nat → Int → Int}
set_option maxHeartbeats 4000000 in
theorem c_learn {s n : Int} {σ : Int → Int} {h : Int → Int → Int} (hs : -2147483648 ≤ s ∧ s < 2147483648) (hp : PB p) (hV : V σ) (hS : St z (p 0) σ) (h0 : 0 ≤ n) (h6 : n ≤ 6) (hH : Hs z p n h) : WP (f_X11_learn 0 (I3 s) (M p z l)) (fun r => ∃ p' z' l', r = (I3 (A_learn σ s), M p' z' l') ∧ ((G_learn σ s ∧ CX p z n h σ (lnP σ s.toNat) p' z') ∨ (¬G_learn σ s ∧ p' = p ∧ FrX z z'))) := by
  have hb := hp.1 0 (by omega)
  have hr := isB_r hb
  unfold f_X11_learn A_learn G_learn
  by_cases h1 : 0 ≤ s ∧ s ≤ 2
  case neg =>
    rw [if_neg h1]
    simp (disch := first | assumption | omega) only [↓b_hid, bH_some, ↓hid_W, W_some, I3_a, I3_s, I3_m, I3_n, I3_l, I3_lt, I3_le, I3_e, I3_dv, I3_rm, I3_mx, I3_mn, I3_ab, cI, bI_0, bI_1, rZ_b, up_same, up_row, up_col, xr_some, LQ_r, LQ_l, Int.sub_self, Int.add_zero, Int.zero_add, Int.sub_zero, Int.neg_neg, not_true_eq_false, not_false_eq_true, Int.add_sub_cancel, ↓ite_iH, iH_t, iH_f, bH_iH, ↓bH_bind, xr_iH, ↓xr_bind, W_iH, WI_t, WI_f, g_isSlot, bI_f, iH_pos, iH_neg, WI_pos, WI_neg]
    exact ⟨p, z, l, rfl, Or.inr ⟨fun hg => h1 hg.1, rfl, FrX_r z⟩⟩
  rw [if_pos h1]
  have hs3 : s.toNat < 3 := by omega
  have ht := σ_tr hV hs3
  have eg : z (p 0) 2 = σ 0 := hS.1.1
  simp (disch := first | assumption | omega) only [↓b_hid, bH_some, ↓hid_W, W_some, I3_a, I3_s, I3_m, I3_n, I3_l, I3_lt, I3_le, I3_e, I3_dv, I3_rm, I3_mx, I3_mn, I3_ab, cI, bI_0, bI_1, rZ_b, up_same, up_row, up_col, xr_some, LQ_r, LQ_l, Int.sub_self, Int.add_zero, Int.zero_add, Int.sub_zero, Int.neg_neg, not_true_eq_false, not_false_eq_true, Int.add_sub_cancel, ↓ite_iH, iH_t, iH_f, bH_iH, ↓bH_bind, xr_iH, ↓xr_bind, W_iH, WI_t, WI_f, aR_34, aR_19, sR_19, gR_0_0, pR_0, gI_0, pI_0, iO_0, gR_0_1, gR_0_3, gR_0_4, gR_0_5, gR_0_6, gR_0_7, gR_0_8, gR_0_9, gR_0_10, gR_0_11, gI_B, pI_B, iO_B, gR_B0, gR_B1, aR_B, g_isSlot, bI_t, g_trAt, gR_0_7, gR_0_10, iO_35, iO_47, eg, iH_pos, iH_neg, WI_pos, WI_neg]
  generalize s.toNat = sn at *
  refine W_bH (W_imp (c_split hb hV hS hs3) ?_)
  rintro _ ⟨z1, rfl, a1, a2⟩
  simp (disch := first | assumption | omega) only [↓b_hid, bH_some, ↓hid_W, W_some, I3_a, I3_s, I3_m, I3_n, I3_l, I3_lt, I3_le, I3_e, I3_dv, I3_rm, I3_mx, I3_mn, I3_ab, cI, bI_0, bI_1, rZ_b, up_same, up_row, up_col, xr_some, LQ_r, LQ_l, Int.sub_self, Int.add_zero, Int.zero_add, Int.sub_zero, Int.neg_neg, not_true_eq_false, not_false_eq_true, Int.add_sub_cancel, ↓ite_iH, iH_t, iH_f, bH_iH, ↓bH_bind, xr_iH, ↓xr_bind, W_iH, WI_t, WI_f, aR_34, aR_19, sR_19, gR_0_0, pR_0, gI_0, pI_0, iO_0, gR_0_1, gR_0_3, gR_0_4, gR_0_5, gR_0_6, gR_0_7, gR_0_8, gR_0_9, gR_0_10, gR_0_11, gR_0_7, gR_0_10, iO_47]
  refine W_bH (W_imp (w_gather a1 ht.1.1 ht.1.2 ht.2) ?_)
  rintro _ ⟨v, z2, rfl, b1, b2⟩
  have hFX : FrX z z2 := fun k hk => (b1 k (by omega)).trans (a2 k (by omega))
  rcases b2 with ⟨rfl, b2⟩ | ⟨rfl, b2, b3, b4, b5, b6, b7, b8⟩
  · have hn : noL σ sn := b2
    rw [cif_t hn]
    simp (disch := first | assumption | omega) only [↓b_hid, bH_some, ↓hid_W, W_some, I3_a, I3_s, I3_m, I3_n, I3_l, I3_lt, I3_le, I3_e, I3_dv, I3_rm, I3_mx, I3_mn, I3_ab, cI, bI_0, bI_1, rZ_b, up_same, up_row, up_col, xr_some, LQ_r, LQ_l, Int.sub_self, Int.add_zero, Int.zero_add, Int.sub_zero, Int.neg_neg, not_true_eq_false, not_false_eq_true, Int.add_sub_cancel, ↓ite_iH, iH_t, iH_f, bH_iH, ↓bH_bind, xr_iH, ↓xr_bind, W_iH, WI_t, WI_f, iH_pos, iH_neg, WI_pos, WI_neg]
    exact ⟨p, z2, l, rfl, Or.inr ⟨fun hg => hg.2.1 hn, rfl, hFX⟩⟩
  have hn : ¬noL σ sn := by
    rintro (h | h)
    · omega
    · unfold Lσ at h; omega
  rw [cif_f hn]
  obtain ⟨r1, r2, r3, r4, r5, r6, r7⟩ := ln_r hV hs3 hn
  have b4 : z2 47 2 = lnM σ sn := b4
  have b5 : z2 47 3 = lnH σ sn := b5
  have b6 : z2 47 4 = lnS σ sn := b6
  have b7 : Cc z2 48 (lcl σ sn 0) := b7
  have b8 : Cc z2 50 (lcl σ sn 1) := b8
  simp (disch := first | assumption | omega) only [↓b_hid, bH_some, ↓hid_W, W_some, I3_a, I3_s, I3_m, I3_n, I3_l, I3_lt, I3_le, I3_e, I3_dv, I3_rm, I3_mx, I3_mn, I3_ab, cI, bI_0, bI_1, rZ_b, up_same, up_row, up_col, xr_some, LQ_r, LQ_l, Int.sub_self, Int.add_zero, Int.zero_add, Int.sub_zero, Int.neg_neg, not_true_eq_false, not_false_eq_true, Int.add_sub_cancel, ↓ite_iH, iH_t, iH_f, bH_iH, ↓bH_bind, xr_iH, ↓xr_bind, W_iH, WI_t, WI_f, aR_34, aR_19, sR_19, gR_0_0, pR_0, gI_0, pI_0, iO_0, gR_0_1, gR_0_3, gR_0_4, gR_0_5, gR_0_6, gR_0_7, gR_0_8, gR_0_9, gR_0_10, gR_0_11, gR_0_10, iO_47, iH_pos, iH_neg, WI_pos, WI_neg]
  refine W_bH (W_imp (w_conclude b7 b8 r6 r7 r4 r5 b4 r1 b5 b6 r2 r3) ?_)
  rintro _ ⟨v, z3, rfl, d1, ⟨rfl, e2a, d3⟩ | ⟨rfl, e2a⟩⟩
  case inr =>
    have hFX3 : FrX z z3 := fun k hk => (d1 k (by omega)).trans (hFX k hk)
    have d2 : ¬lnO σ sn := e2a
    rw [cif_f d2]
    simp (disch := first | assumption | omega) only [↓b_hid, bH_some, ↓hid_W, W_some, I3_a, I3_s, I3_m, I3_n, I3_l, I3_lt, I3_le, I3_e, I3_dv, I3_rm, I3_mx, I3_mn, I3_ab, cI, bI_0, bI_1, rZ_b, up_same, up_row, up_col, xr_some, LQ_r, LQ_l, Int.sub_self, Int.add_zero, Int.zero_add, Int.sub_zero, Int.neg_neg, not_true_eq_false, not_false_eq_true, Int.add_sub_cancel, ↓ite_iH, iH_t, iH_f, bH_iH, ↓bH_bind, xr_iH, ↓xr_bind, W_iH, WI_t, WI_f, iH_pos, iH_neg, WI_pos, WI_neg]
    exact ⟨p, z3, l, rfl, Or.inr ⟨fun hg => d2 hg.2.2.1, rfl, hFX3⟩⟩
  have d2 : lnO σ sn := e2a
  clear e2a
  have d3 : lnF z3 (lnH σ sn) (lnS σ sn) (lnG σ sn) := d3
  have hFX3 : FrX z z3 := fun k hk => (d1 k (by omega)).trans (hFX k hk)
  have hS3 : St z3 (p 0) σ := FrX_S hb hV hFX3 hS
  have hH3 : Hs z3 p n h := Hs_X hp h6 (fun k hk => hFX3 k (by omega)) hH
  have hTb := isTb_B hb
  obtain ⟨⟨e1, e4⟩, v3, v58⟩ := c_tb hV hS3
  have gf := g_pfull (p := p) (z := z3) (l := l) (t := p 0 + 1) hTb (by omega) (by omega)
  rw [e1] at gf
  rw [cif_t d2]
  by_cases h7 : σ 3 < 6
  case neg =>
    rw [if_neg h7]
    rw [bI_t (by omega)] at gf
    simp (disch := first | assumption | omega) only [↓b_hid, bH_some, ↓hid_W, W_some, I3_a, I3_s, I3_m, I3_n, I3_l, I3_lt, I3_le, I3_e, I3_dv, I3_rm, I3_mx, I3_mn, I3_ab, cI, bI_0, bI_1, rZ_b, up_same, up_row, up_col, xr_some, LQ_r, LQ_l, Int.sub_self, Int.add_zero, Int.zero_add, Int.sub_zero, Int.neg_neg, not_true_eq_false, not_false_eq_true, Int.add_sub_cancel, ↓ite_iH, iH_t, iH_f, bH_iH, ↓bH_bind, xr_iH, ↓xr_bind, W_iH, WI_t, WI_f, aR_34, aR_19, sR_19, gR_0_0, pR_0, gI_0, pI_0, iO_0, gR_0_1, gR_0_3, gR_0_4, gR_0_5, gR_0_6, gR_0_7, gR_0_8, gR_0_9, gR_0_10, gR_0_11, gI_B, pI_B, iO_B, gR_B0, gR_B1, aR_B, iO_Tb, gf, iH_pos, iH_neg, WI_pos, WI_neg]
    exact ⟨p, z3, l, rfl, Or.inr ⟨fun hg => h7 hg.2.2.2, rfl, hFX3⟩⟩
  rw [if_pos h7]
  rw [bI_f (by omega)] at gf
  simp (disch := first | assumption | omega) only [↓b_hid, bH_some, ↓hid_W, W_some, I3_a, I3_s, I3_m, I3_n, I3_l, I3_lt, I3_le, I3_e, I3_dv, I3_rm, I3_mx, I3_mn, I3_ab, cI, bI_0, bI_1, rZ_b, up_same, up_row, up_col, xr_some, LQ_r, LQ_l, Int.sub_self, Int.add_zero, Int.zero_add, Int.sub_zero, Int.neg_neg, not_true_eq_false, not_false_eq_true, Int.add_sub_cancel, ↓ite_iH, iH_t, iH_f, bH_iH, ↓bH_bind, xr_iH, ↓xr_bind, W_iH, WI_t, WI_f, aR_34, aR_19, sR_19, gR_0_0, pR_0, gI_0, pI_0, iO_0, gR_0_1, gR_0_3, gR_0_4, gR_0_5, gR_0_6, gR_0_7, gR_0_8, gR_0_9, gR_0_10, gR_0_11, gI_B, pI_B, iO_B, gR_B0, gR_B1, aR_B, iO_Tb, gf, iO_0, iH_pos, iH_neg, WI_pos, WI_neg]
  refine W_bH (W_imp (c_save hp hV hS3 h0 h6 hH3) ?_)
  rintro _ ⟨p', z', rfl, a0, x1, x2⟩
  have hX : CX p z n h σ σ p' z' := by
    obtain ⟨y1, y2, y3, y4, y5, y6⟩ := x1
    exact ⟨y1, y2, y3, fun k hk => (y4 k hk).trans (hFX3 k (by omega)), y5.trans (hFX3 20 (by omega)), y6.trans (hFX3 21 (by omega))⟩
  have hb' := x1.1.1 0 (by omega)
  have hTb' := isTb_B hb'
  have hST := x1.2.1
  have f1 : z' (p' 0 + 1) 1 = σ 3 := hST.2.1.1
  obtain ⟨g1, g2, g3, g4⟩ := lnG_r hV hs3 hn d2
  have hrB := isB_r hb'
  have r47 : z' 47 = z3 47 := x2 47 (by decide) (by decide)
  obtain ⟨k3, k4, k5, k6, k7, k8, k9⟩ := d3
  rw [← r47] at k3 k4 k5 k6 k7 k8 k9
  unfold lnP
  generalize lnG σ sn = K at *
  obtain ⟨K1, K2, K3, K4, K5⟩ := K
  simp only at g1 g2 g3 g4 k5 k6 k7 k8 k9 ⊢
  generalize lnH σ sn = hh at *
  generalize lnS σ sn = ss at *
  have gN := g_newP (p := p') (z := z') (l := l) (t := p' 0 + 1) (k := K1) (b := K2) (o := 0) (r := 0) hTb' (by omega) (by omega) (by omega) (by omega)
  rw [f1] at gN
  generalize hq : p' 0 + 1 + 4 + (σ 3).toNat = Q0 at gN
  generalize hz5 : up (lensZ (shapeZ z' Q0 K1 K2 0 0) Q0 9000 4500 560 (if K1 = 2 then 0 else 560) (if K1 = 2 then 0 else 1690)) (p' 0 + 1) 1 (σ 3 + 1) = z5 at gN
  have hrow : ∀ c, c ≠ p' 0 + 1 → c ≠ Q0 → z5 c = z' c := fun c c0 c1 => by rw [← hz5, up_row c0, lensZ_row c1, shapeZ_row c1]
  have m47 : z5 47 = z' 47 := hrow 47 (by omega) (by omega)
  have j3 : z5 47 3 = hh := by rw [m47]; exact k3
  have j4 : z5 47 4 = ss := by rw [m47]; exact k4
  have j7 : z5 47 7 = K3 := by rw [m47]; exact k7
  have j8 : z5 47 8 = K4 := by rw [m47]; exact k8
  have j9 : z5 47 9 = K5 := by rw [m47]; exact k9
  have gA := g_pAt (p := p') (z := z5) (l := l) (i := σ 3) hTb' (by omega) (by omega)
  rw [hq] at gA
  have hP : isP Q0 := by rw [← hq]; exact isP_T hTb' (i := (σ 3).toNat) (by omega)
  have gU := g_useLengths (p := p') (z := z5) (l := l) (h := hh) (s := ss) (a := K3) (b := K4) (c := K5) hP
  simp (disch := first | assumption | omega) only [↓b_hid, bH_some, ↓hid_W, W_some, I3_a, I3_s, I3_m, I3_n, I3_l, I3_lt, I3_le, I3_e, I3_dv, I3_rm, I3_mx, I3_mn, I3_ab, cI, bI_0, bI_1, rZ_b, up_same, up_row, up_col, xr_some, LQ_r, LQ_l, Int.sub_self, Int.add_zero, Int.zero_add, Int.sub_zero, Int.neg_neg, not_true_eq_false, not_false_eq_true, Int.add_sub_cancel, ↓ite_iH, iH_t, iH_f, bH_iH, ↓bH_bind, xr_iH, ↓xr_bind, W_iH, WI_t, WI_f, aR_34, aR_19, sR_19, gR_0_0, pR_0, gI_0, pI_0, iO_0, gR_0_1, gR_0_3, gR_0_4, gR_0_5, gR_0_6, gR_0_7, gR_0_8, gR_0_9, gR_0_10, gR_0_11, gI_B, pI_B, iO_B, gR_B0, gR_B1, aR_B, gI_47, pI_47, iO_47, gR_47_0, gR_47_1, gR_0_10, k5, k6, iO_Tb, gN, gA, j3, j4, j7, j8, j9, iO_P, gU]
  have hrow2 : ∀ c, c ≠ p' 0 + 1 → c ≠ Q0 → lensZ z5 Q0 hh ss K3 K4 K5 c = z' c := fun c c0 c1 => by rw [lensZ_row c1]; exact hrow c c0 c1
  refine ⟨p', _, l, rfl, Or.inl ⟨⟨h1, hn, d2, h7⟩, CX_mod ⟨h0, h6⟩ hX (fun c hc _ => hrow2 c (by omega) (by omega)) (St_tb hST hV (fun c hc hc' => hrow2 c (by omega) (by omega)) (Nat.le_refl _) ?_ (addP_hi ⟨v3.1, h7⟩))⟩⟩
  refine Tb_addP ⟨v3.1, h7⟩ v58.2 hST.2.1 ?_ ?_ (hrow2 _ (by omega) (by omega)) (hrow2 _ (by omega) (by omega)) (fun q' hq' => hrow2 _ (by omega) (by omega)) ?_
  · rw [lensZ_row (by omega), ← hz5, up_same]
  · rw [lensZ_row (by omega), ← hz5, up_col (by decide), lensZ_row (by omega), shapeZ_row (by omega)]
  · rw [hq, ← hz5]
    unfold lensZ shapeZ
    refine ⟨?_, ?_, ?_, ?_, ?_, ?_, ?_, ?_, ?_⟩ <;> simp (disch := omega) only [up_row, up_col, up_same]
end
section
variable {p : Nat → Nat} {z l : Nat → Int → Int}
end
theorem x_learn {s : Int} (hs : -2147483648 ≤ s ∧ s < 2147483648) : CC (f_X11_learn 0 (I3 s)) (fun σ => A_learn σ s) (fun σ => G_learn σ s) (fun σ => lnP σ s.toNat) := by
  intro p z l σ n h hp hV hS h0 h6 hH
  exact c_learn hs hp hV hS h0 h6 hH
