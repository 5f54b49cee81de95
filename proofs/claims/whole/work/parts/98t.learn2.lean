/-! learn(): the class's side, the model's, and both. -/
noncomputable def A_learn (σ : Int → Int) (s : Int) : Int := if 0 ≤ s ∧ s ≤ 2 then cif (noL σ s.toNat) (-2) (cif (lnO σ s.toNat) (if σ 3 < 6 then σ 3 else -3) (-2)) else -1
def G_learn (σ : Int → Int) (s : Int) : Prop := (0 ≤ s ∧ s ≤ 2) ∧ ¬noL σ s.toNat ∧ lnO σ s.toNat ∧ σ 3 < 6
section
variable {p : Nat → Nat} {z l : Nat → Int → Int}
set_option maxHeartbeats 4000000 in
theorem c_learn {s n : Int} {σ : Int → Int} {h : Int → Int → Int} (hs : -2147483648 ≤ s ∧ s < 2147483648) (hp : PB p) (hV : V σ) (hS : St z (p 0) σ) (h0 : 0 ≤ n) (h6 : n ≤ 6) (hH : Hs z p n h) : WP (f_X11_learn 0 (I3 s) (M p z l)) (fun r => ∃ p' z' l', r = (I3 (A_learn σ s), M p' z' l') ∧ ((G_learn σ s ∧ CX p z n h σ (lnP σ s.toNat) p' z') ∨ (¬G_learn σ s ∧ p' = p ∧ FrX z z'))) := by
  have hb := hp.1 0 (by omega)
  have hr := isB_r hb
  unfold f_X11_learn A_learn G_learn
  by_cases h1 : 0 ≤ s ∧ s ≤ 2
  case neg =>
    rw [if_neg h1]
    simp (disch := first | assumption | omega) only [↓b_hid, bH_some, ↓hid_W, W_some, I3_a, I3_s, I3_m, I3_n, I3_l, I3_lt, I3_le, I3_e, I3_dv, I3_rm, I3_mx, I3_mn, I3_ab, cI, bI_0, bI_1, rZ_b, up_same, up_row, up_col, xr_some, LQ_r, LQ_l, Int.sub_self, Int.add_zero, Int.zero_add, Int.sub_zero, Int.neg_neg, not_true_eq_false, not_false_eq_true, Int.add_sub_cancel, ↓ite_iH, iH_t, iH_f, bH_iH, ↓bH_bind, xr_iH, ↓xr_bind, W_iH, WI_t, WI_f, g_isSlot, bI_f, iH_pos, iH_neg, WI_pos, WI_neg]
    exact ⟨p, z, l, rfl, Or.inr ⟨fun hg => h1 hg.1, rfl, FrX_r z⟩⟩
  rw [if_pos h1]
  have hs3 : s.toNat < 3 := by omega
  have ht := σ_tr hV hs3
  have eg : z (p 0) 2 = σ 0 := hS.1.1
  simp (disch := first | assumption | omega) only [↓b_hid, bH_some, ↓hid_W, W_some, I3_a, I3_s, I3_m, I3_n, I3_l, I3_lt, I3_le, I3_e, I3_dv, I3_rm, I3_mx, I3_mn, I3_ab, cI, bI_0, bI_1, rZ_b, up_same, up_row, up_col, xr_some, LQ_r, LQ_l, Int.sub_self, Int.add_zero, Int.zero_add, Int.sub_zero, Int.neg_neg, not_true_eq_false, not_false_eq_true, Int.add_sub_cancel, ↓ite_iH, iH_t, iH_f, bH_iH, ↓bH_bind, xr_iH, ↓xr_bind, W_iH, WI_t, WI_f, aR_34, aR_19, sR_19, gR_0_0, pR_0, gI_0, pI_0, iO_0, gR_0_1, gR_0_3, gR_0_4, gR_0_5, gR_0_6, gR_0_7, gR_0_8, gR_0_9, gR_0_10, gR_0_11, gI_B, pI_B, iO_B, gR_B0, gR_B1, aR_B, g_isSlot, bI_t, g_trAt, gR_0_7, gR_0_10, iO_35, iO_47, eg, iH_pos, iH_neg, WI_pos, WI_neg]
  generalize s.toNat = sn at *
  refine W_bH (W_imp (c_split hb hV hS hs3) ?_)
  rintro _ ⟨z1, rfl, a1, a2⟩
  simp (disch := first | assumption | omega) only [↓b_hid, bH_some, ↓hid_W, W_some, I3_a, I3_s, I3_m, I3_n, I3_l, I3_lt, I3_le, I3_e, I3_dv, I3_rm, I3_mx, I3_mn, I3_ab, cI, bI_0, bI_1, rZ_b, up_same, up_row, up_col, xr_some, LQ_r, LQ_l, Int.sub_self, Int.add_zero, Int.zero_add, Int.sub_zero, Int.neg_neg, not_true_eq_false, not_false_eq_true, Int.add_sub_cancel, ↓ite_iH, iH_t, iH_f, bH_iH, ↓bH_bind, xr_iH, ↓xr_bind, W_iH, WI_t, WI_f, aR_34, aR_19, sR_19, gR_0_0, pR_0, gI_0, pI_0, iO_0, gR_0_1, gR_0_3, gR_0_4, gR_0_5, gR_0_6, gR_0_7, gR_0_8, gR_0_9, gR_0_10, gR_0_11, gR_0_7, gR_0_10, iO_47]
  refine W_bH (W_imp (w_gather a1 ht.1.1 ht.1.2 ht.2) ?_)
  rintro _ ⟨v, z2, rfl, b1, b2⟩
  have hFX : FrX z z2 := fun k hk => (b1 k (by omega)).trans (a2 k (by omega))
  rcases b2 with ⟨rfl, b2⟩ | ⟨rfl, b2, b3, b4, b5, b6, b7, b8⟩
  · have hn : noL σ sn := b2
    rw [cif_t hn]
    simp (disch := first | assumption | omega) only [↓b_hid, bH_some, ↓hid_W, W_some, I3_a, I3_s, I3_m, I3_n, I3_l, I3_lt, I3_le, I3_e, I3_dv, I3_rm, I3_mx, I3_mn, I3_ab, cI, bI_0, bI_1, rZ_b, up_same, up_row, up_col, xr_some, LQ_r, LQ_l, Int.sub_self, Int.add_zero, Int.zero_add, Int.sub_zero, Int.neg_neg, not_true_eq_false, not_false_eq_true, Int.add_sub_cancel, ↓ite_iH, iH_t, iH_f, bH_iH, ↓bH_bind, xr_iH, ↓xr_bind, W_iH, WI_t, WI_f, iH_pos, iH_neg, WI_pos, WI_neg]
    exact ⟨p, z2, l, rfl, Or.inr ⟨fun hg => hg.2.1 hn, rfl, hFX⟩⟩
  have hn : ¬noL σ sn := by
    rintro (h | h)
    · omega
    · unfold Lσ at h; omega
  rw [cif_f hn]
  obtain ⟨r1, r2, r3, r4, r5, r6, r7⟩ := ln_r hV hs3 hn
  have b4 : z2 47 2 = lnM σ sn := b4
  have b5 : z2 47 3 = lnH σ sn := b5
  have b6 : z2 47 4 = lnS σ sn := b6
  have b7 : Cc z2 48 (lcl σ sn 0) := b7
  have b8 : Cc z2 50 (lcl σ sn 1) := b8
  simp (disch := first | assumption | omega) only [↓b_hid, bH_some, ↓hid_W, W_some, I3_a, I3_s, I3_m, I3_n, I3_l, I3_lt, I3_le, I3_e, I3_dv, I3_rm, I3_mx, I3_mn, I3_ab, cI, bI_0, bI_1, rZ_b, up_same, up_row, up_col, xr_some, LQ_r, LQ_l, Int.sub_self, Int.add_zero, Int.zero_add, Int.sub_zero, Int.neg_neg, not_true_eq_false, not_false_eq_true, Int.add_sub_cancel, ↓ite_iH, iH_t, iH_f, bH_iH, ↓bH_bind, xr_iH, ↓xr_bind, W_iH, WI_t, WI_f, aR_34, aR_19, sR_19, gR_0_0, pR_0, gI_0, pI_0, iO_0, gR_0_1, gR_0_3, gR_0_4, gR_0_5, gR_0_6, gR_0_7, gR_0_8, gR_0_9, gR_0_10, gR_0_11, gR_0_10, iO_47, iH_pos, iH_neg, WI_pos, WI_neg]
  refine W_bH (W_imp (w_conclude b7 b8 r6 r7 r4 r5 b4 r1 b5 b6 r2 r3) ?_)
  rintro _ ⟨v, z3, rfl, d1, ⟨rfl, e2a, d3⟩ | ⟨rfl, e2a⟩⟩
  case inr =>
    have hFX3 : FrX z z3 := fun k hk => (d1 k (by omega)).trans (hFX k hk)
    have d2 : ¬lnO σ sn := e2a
    rw [cif_f d2]
    simp (disch := first | assumption | omega) only [↓b_hid, bH_some, ↓hid_W, W_some, I3_a, I3_s, I3_m, I3_n, I3_l, I3_lt, I3_le, I3_e, I3_dv, I3_rm, I3_mx, I3_mn, I3_ab, cI, bI_0, bI_1, rZ_b, up_same, up_row, up_col, xr_some, LQ_r, LQ_l, Int.sub_self, Int.add_zero, Int.zero_add, Int.sub_zero, Int.neg_neg, not_true_eq_false, not_false_eq_true, Int.add_sub_cancel, ↓ite_iH, iH_t, iH_f, bH_iH, ↓bH_bind, xr_iH, ↓xr_bind, W_iH, WI_t, WI_f, iH_pos, iH_neg, WI_pos, WI_neg]
    exact ⟨p, z3, l, rfl, Or.inr ⟨fun hg => d2 hg.2.2.1, rfl, hFX3⟩⟩
  have d2 : lnO σ sn := e2a
  clear e2a
  have d3 : lnF z3 (lnH σ sn) (lnS σ sn) (lnG σ sn) := d3
  have hFX3 : FrX z z3 := fun k hk => (d1 k (by omega)).trans (hFX k hk)
  have hS3 : St z3 (p 0) σ := FrX_S hb hV hFX3 hS
  have hH3 : Hs z3 p n h := Hs_X hp h6 (fun k hk => hFX3 k (by omega)) hH
  have hTb := isTb_B hb
  obtain ⟨⟨e1, e4⟩, v3, v58⟩ := c_tb hV hS3
  have gf := g_pfull (p := p) (z := z3) (l := l) (t := p 0 + 1) hTb (by omega) (by omega)
  rw [e1] at gf
  rw [cif_t d2]
  by_cases h7 : σ 3 < 6
  case neg =>
    rw [if_neg h7]
    rw [bI_t (by omega)] at gf
    simp (disch := first | assumption | omega) only [↓b_hid, bH_some, ↓hid_W, W_some, I3_a, I3_s, I3_m, I3_n, I3_l, I3_lt, I3_le, I3_e, I3_dv, I3_rm, I3_mx, I3_mn, I3_ab, cI, bI_0, bI_1, rZ_b, up_same, up_row, up_col, xr_some, LQ_r, LQ_l, Int.sub_self, Int.add_zero, Int.zero_add, Int.sub_zero, Int.neg_neg, not_true_eq_false, not_false_eq_true, Int.add_sub_cancel, ↓ite_iH, iH_t, iH_f, bH_iH, ↓bH_bind, xr_iH, ↓xr_bind, W_iH, WI_t, WI_f, aR_34, aR_19, sR_19, gR_0_0, pR_0, gI_0, pI_0, iO_0, gR_0_1, gR_0_3, gR_0_4, gR_0_5, gR_0_6, gR_0_7, gR_0_8, gR_0_9, gR_0_10, gR_0_11, gI_B, pI_B, iO_B, gR_B0, gR_B1, aR_B, iO_Tb, gf, iH_pos, iH_neg, WI_pos, WI_neg]
    exact ⟨p, z3, l, rfl, Or.inr ⟨fun hg => h7 hg.2.2.2, rfl, hFX3⟩⟩
  rw [if_pos h7]
  rw [bI_f (by omega)] at gf
  simp (disch := first | assumption | omega) only [↓b_hid, bH_some, ↓hid_W, W_some, I3_a, I3_s, I3_m, I3_n, I3_l, I3_lt, I3_le, I3_e, I3_dv, I3_rm, I3_mx, I3_mn, I3_ab, cI, bI_0, bI_1, rZ_b, up_same, up_row, up_col, xr_some, LQ_r, LQ_l, Int.sub_self, Int.add_zero, Int.zero_add, Int.sub_zero, Int.neg_neg, not_true_eq_false, not_false_eq_true, Int.add_sub_cancel, ↓ite_iH, iH_t, iH_f, bH_iH, ↓bH_bind, xr_iH, ↓xr_bind, W_iH, WI_t, WI_f, aR_34, aR_19, sR_19, gR_0_0, pR_0, gI_0, pI_0, iO_0, gR_0_1, gR_0_3, gR_0_4, gR_0_5, gR_0_6, gR_0_7, gR_0_8, gR_0_9, gR_0_10, gR_0_11, gI_B, pI_B, iO_B, gR_B0, gR_B1, aR_B, iO_Tb, gf, iO_0, iH_pos, iH_neg, WI_pos, WI_neg]
  refine W_bH (W_imp (c_save hp hV hS3 h0 h6 hH3) ?_)
  rintro _ ⟨p', z', rfl, a0, x1, x2⟩
  have hX : CX p z n h σ σ p' z' := by
    obtain ⟨y1, y2, y3, y4, y5, y6⟩ := x1
    exact ⟨y1, y2, y3, fun k hk => (y4 k hk).trans (hFX3 k (by omega)), y5.trans (hFX3 20 (by omega)), y6.trans (hFX3 21 (by omega))⟩
  have hb' := x1.1.1 0 (by omega)
  have hTb' := isTb_B hb'
  have hST := x1.2.1
  have f1 : z' (p' 0 + 1) 1 = σ 3 := hST.2.1.1
  obtain ⟨g1, g2, g3, g4⟩ := lnG_r hV hs3 hn d2
  have hrB := isB_r hb'
  have r47 : z' 47 = z3 47 := x2 47 (by decide) (by decide)
  obtain ⟨k3, k4, k5, k6, k7, k8, k9⟩ := d3
  rw [← r47] at k3 k4 k5 k6 k7 k8 k9
  unfold lnP
  generalize lnG σ sn = K at *
  obtain ⟨K1, K2, K3, K4, K5⟩ := K
  simp only at g1 g2 g3 g4 k5 k6 k7 k8 k9 ⊢
  generalize lnH σ sn = hh at *
  generalize lnS σ sn = ss at *
  have gN := g_newP (p := p') (z := z') (l := l) (t := p' 0 + 1) (k := K1) (b := K2) (o := 0) (r := 0) hTb' (by omega) (by omega) (by omega) (by omega)
  rw [f1] at gN
  generalize hq : p' 0 + 1 + 4 + (σ 3).toNat = Q0 at gN
  generalize hz5 : up (lensZ (shapeZ z' Q0 K1 K2 0 0) Q0 9000 4500 560 (if K1 = 2 then 0 else 560) (if K1 = 2 then 0 else 1690)) (p' 0 + 1) 1 (σ 3 + 1) = z5 at gN
  have hrow : ∀ c, c ≠ p' 0 + 1 → c ≠ Q0 → z5 c = z' c := fun c c0 c1 => by rw [← hz5, up_row c0, lensZ_row c1, shapeZ_row c1]
  have m47 : z5 47 = z' 47 := hrow 47 (by omega) (by omega)
  have j3 : z5 47 3 = hh := by rw [m47]; exact k3
  have j4 : z5 47 4 = ss := by rw [m47]; exact k4
  have j7 : z5 47 7 = K3 := by rw [m47]; exact k7
  have j8 : z5 47 8 = K4 := by rw [m47]; exact k8
  have j9 : z5 47 9 = K5 := by rw [m47]; exact k9
  have gA := g_pAt (p := p') (z := z5) (l := l) (i := σ 3) hTb' (by omega) (by omega)
  rw [hq] at gA
  have hP : isP Q0 := by rw [← hq]; exact isP_T hTb' (i := (σ 3).toNat) (by omega)
  have gU := g_useLengths (p := p') (z := z5) (l := l) (h := hh) (s := ss) (a := K3) (b := K4) (c := K5) hP
  simp (disch := first | assumption | omega) only [↓b_hid, bH_some, ↓hid_W, W_some, I3_a, I3_s, I3_m, I3_n, I3_l, I3_lt, I3_le, I3_e, I3_dv, I3_rm, I3_mx, I3_mn, I3_ab, cI, bI_0, bI_1, rZ_b, up_same, up_row, up_col, xr_some, LQ_r, LQ_l, Int.sub_self, Int.add_zero, Int.zero_add, Int.sub_zero, Int.neg_neg, not_true_eq_false, not_false_eq_true, Int.add_sub_cancel, ↓ite_iH, iH_t, iH_f, bH_iH, ↓bH_bind, xr_iH, ↓xr_bind, W_iH, WI_t, WI_f, aR_34, aR_19, sR_19, gR_0_0, pR_0, gI_0, pI_0, iO_0, gR_0_1, gR_0_3, gR_0_4, gR_0_5, gR_0_6, gR_0_7, gR_0_8, gR_0_9, gR_0_10, gR_0_11, gI_B, pI_B, iO_B, gR_B0, gR_B1, aR_B, gI_47, pI_47, iO_47, gR_47_0, gR_47_1, gR_0_10, k5, k6, iO_Tb, gN, gA, j3, j4, j7, j8, j9, iO_P, gU]
  have hrow2 : ∀ c, c ≠ p' 0 + 1 → c ≠ Q0 → lensZ z5 Q0 hh ss K3 K4 K5 c = z' c := fun c c0 c1 => by rw [lensZ_row c1]; exact hrow c c0 c1
  refine ⟨p', _, l, rfl, Or.inl ⟨⟨h1, hn, d2, h7⟩, CX_mod ⟨h0, h6⟩ hX (fun c hc _ => hrow2 c (by omega) (by omega)) (St_tb hST hV (fun c hc hc' => hrow2 c (by omega) (by omega)) (Nat.le_refl _) ?_ (addP_hi ⟨v3.1, h7⟩))⟩⟩
  refine Tb_addP ⟨v3.1, h7⟩ v58.2 hST.2.1 ?_ ?_ (hrow2 _ (by omega) (by omega)) (hrow2 _ (by omega) (by omega)) (fun q' hq' => hrow2 _ (by omega) (by omega)) ?_
  · rw [lensZ_row (by omega), ← hz5, up_same]
  · rw [lensZ_row (by omega), ← hz5, up_col (by decide), lensZ_row (by omega), shapeZ_row (by omega)]
  · rw [hq, ← hz5]
    unfold lensZ shapeZ
    refine ⟨?_, ?_, ?_, ?_, ?_, ?_, ?_, ?_, ?_⟩ <;> simp (disch := omega) only [up_row, up_col, up_same]
end
section
variable {p : Nat → Nat} {z l : Nat → Int → Int}
theorem q_ln131 {x y h s : Int} (e0 : f_X12_meanOf 189 (I3 0) (M p z l) = some (I3 h, M p z l)) (e1 : f_X12_meanOf 189 (I3 1) (M p z l) = some (I3 s, M p z l)) : f_X12_learn_131 189 (I3 x) (I3 y) (I3 0) (M p z l) = some (I3 (-2), M p z l) := by
  apply W_eq
  unfold f_X12_learn_131
  simp (disch := first | assumption | omega) only [↓b_hid, bH_some, ↓hid_W, W_some, I3_a, I3_s, I3_m, I3_n, I3_l, I3_lt, I3_le, I3_e, I3_dv, I3_rm, I3_mx, I3_mn, I3_ab, cI, bI_0, bI_1, rZ_b, up_same, up_row, up_col, xr_some, LQ_r, LQ_l, Int.sub_self, Int.add_zero, Int.zero_add, Int.sub_zero, Int.neg_neg, not_true_eq_false, not_false_eq_true, Int.add_sub_cancel, ↓ite_iH, iH_t, iH_f, bH_iH, ↓bH_bind, xr_iH, ↓xr_bind, W_iH, WI_t, WI_f, gI_189, pI_189, iO_189, gR_189_0, aI_190, sI_190, gR_189_1, aI_191, sI_191, gR_189_3, aI_192, gR_189_10, aI_193, sI_193, gR_189_11, aI_194, sI_194, gR_189_13, aI_195, sI_195, gR_189_15, aI_196, sI_196, gR_189_17, aI_197, sI_197, gR_189_18, aI_198, sI_198, gR_189_19, aI_199, sI_199, gR_189_20, aI_200, sI_200, gR_189_23, aI_201, gR_189_24, aI_202, sI_202, gR_189_25, aI_203, sI_203, gR_189_29, aI_204, sI_204, gR_189_32, aI_205, sI_205, gR_189_35, aI_206, sI_206, pZ_189, gL_189, pL_189, f_X12_learn_132, f_X12_learn_149, f_X12_learn_166, f_X12_learn_184, e0, e1]
/-- the rest behind the lengths -/
def LnQ (σ : Int → Int) (s n : Int) (p : Nat → Nat) (z : Nat → Int → Int) (r : Int32 × MS) : Prop := ∃ z' l', r = (I3 (A_learn σ s), M p z' l') ∧ ((G_learn σ s ∧ CMo z n σ (lnP σ s.toNat) z') ∨ (¬G_learn σ s ∧ FrQ z z'))
set_option maxHeartbeats 4000000 in
theorem q_ln210 {s n : Int} {sn : Nat} {σ : Int → Int} {z0 : Nat → Int → Int} {v5 : Int} (hs : s = sn) (hs3 : sn < 3) (hV : V σ) (hn : ¬noL σ sn) (hC : lnC (lcl σ sn 0) (lcl σ sn 1)) (h16 : (lnG σ sn).2.1 ≤ 16) (h5 : v5 = if (lcl σ sn 0).length = 1 then 1 else 0) (hσ : z 190 = σ) (h2 : z 189 2 = n) (h0 : 0 ≤ n) (h6 : n ≤ 6) (e200 : z 200 0 = lnM σ sn) (hF : FrQ z0 z) : WP (f_X12_learn_210 189 (I3 v5) (I3 (lnG σ sn).2.2.1) (I3 (lnG σ sn).2.2.2.1) (I3 (lnG σ sn).2.2.2.2) (I3 (lnH σ sn)) (I3 (lnS σ sn)) (M p z l)) (LnQ σ s n p z0) := by
  have v3 := hV.2.2.2.1
  obtain ⟨r1, r2, r3, r4, r5, r6, r7⟩ := ln_r hV hs3 hn
  subst hs
  unfold f_X12_learn_210 LnQ A_learn G_learn
  have hss : ((sn : Int)).toNat = sn := by omega
  rw [hss, if_pos (show 0 ≤ (sn : Int) ∧ (sn : Int) ≤ 2 by omega), cif_f hn]
  have hK : ((lnG σ sn).1 = 0 ∨ (lnG σ sn).1 = 1) ∧ (0 ≤ (lnG σ sn).2.2.1 ∧ (lnG σ sn).2.2.1 ≤ 60000) ∧ (0 ≤ (lnG σ sn).2.2.2.1 ∧ (lnG σ sn).2.2.2.1 ≤ 60000) ∧ (0 ≤ (lnG σ sn).2.2.2.2 ∧ (lnG σ sn).2.2.2.2 ≤ 60000) ∧ ((v5 = 1 ∧ (lnG σ sn).1 = 0 ∧ (lnG σ sn).2.1 = (lnM σ sn - 3) / 2) ∨ (v5 = 0 ∧ (lnG σ sn).1 = 1 ∧ (lnG σ sn).2.1 = (lnM σ sn - 1) / 2)) := by
    rcases hC with ⟨c1, c2⟩ | ⟨c1, c2⟩
    · have hK : lnG σ sn = (0, (lnM σ sn - 3) / 2, lf (lcl σ sn 0) 0, lf (lcl σ sn 1) 0, lf (lcl σ sn 1) 1) := by unfold lnG lnK; rw [if_pos c1]
      rw [hK]
      rw [if_pos c1] at h5
      exact ⟨Or.inl rfl, lR_r r4 (by omega) (by omega), lR_r r5 (by omega) (by omega), lR_r r5 (by omega) (by omega), Or.inl ⟨h5, rfl, rfl⟩⟩
    · have c3 : ¬(lcl σ sn 0).length = 1 := by omega
      have hK : lnG σ sn = (1, (lnM σ sn - 1) / 2, lf (lcl σ sn 1) 0, lf (lcl σ sn 0) 0, lf (lcl σ sn 0) 1) := by unfold lnG lnK; rw [if_neg c3]
      rw [hK]
      rw [if_neg c3] at h5
      exact ⟨Or.inr rfl, lR_r r5 (by omega) (by omega), lR_r r4 (by omega) (by omega), lR_r r4 (by omega) (by omega), Or.inr ⟨h5, rfl, rfl⟩⟩
  obtain ⟨k1, k2, k3, k4, k5⟩ := hK
  have hO : lnO σ sn ↔ lensOk 0 (lnH σ sn) (lnS σ sn) (lnG σ sn).2.2.1 (lnG σ sn).2.2.2.1 (lnG σ sn).2.2.2.2 := by
    have hlk : lensOk (lnG σ sn).1 (lnH σ sn) (lnS σ sn) (lnG σ sn).2.2.1 (lnG σ sn).2.2.2.1 (lnG σ sn).2.2.2.2 ↔ lensOk 0 (lnH σ sn) (lnS σ sn) (lnG σ sn).2.2.1 (lnG σ sn).2.2.2.1 (lnG σ sn).2.2.2.2 := by
      unfold lensOk; rcases k1 with k1 | k1 <;> rw [k1] <;> omega
    constructor
    · intro h; exact hlk.mp h.2.2
    · intro h; exact ⟨hC, h16, hlk.mpr h⟩
  simp (disch := first | assumption | omega) only [↓b_hid, bH_some, ↓hid_W, W_some, I3_a, I3_s, I3_m, I3_n, I3_l, I3_lt, I3_le, I3_e, I3_dv, I3_rm, I3_mx, I3_mn, I3_ab, cI, bI_0, bI_1, rZ_b, up_same, up_row, up_col, xr_some, LQ_r, LQ_l, Int.sub_self, Int.add_zero, Int.zero_add, Int.sub_zero, Int.neg_neg, not_true_eq_false, not_false_eq_true, Int.add_sub_cancel, ↓ite_iH, iH_t, iH_f, bH_iH, ↓bH_bind, xr_iH, ↓xr_bind, W_iH, WI_t, WI_f]
  refine W_bH (W_imp (m_lens (k := 0) (by omega) (by omega) (by omega) (by omega) (by omega) (by omega)) ?_)
  rintro _ ⟨w, rfl, ⟨rfl, hw⟩ | ⟨rfl, hw⟩⟩
  case inr =>
    have hno : ¬lnO σ sn := fun h => hw (hO.mp h)
    rw [cif_f hno]
    simp (disch := first | assumption | omega) only [↓b_hid, bH_some, ↓hid_W, W_some, I3_a, I3_s, I3_m, I3_n, I3_l, I3_lt, I3_le, I3_e, I3_dv, I3_rm, I3_mx, I3_mn, I3_ab, cI, bI_0, bI_1, rZ_b, up_same, up_row, up_col, xr_some, LQ_r, LQ_l, Int.sub_self, Int.add_zero, Int.zero_add, Int.sub_zero, Int.neg_neg, not_true_eq_false, not_false_eq_true, Int.add_sub_cancel, ↓ite_iH, iH_t, iH_f, bH_iH, ↓bH_bind, xr_iH, ↓xr_bind, W_iH, WI_t, WI_f, iH_pos, iH_neg, WI_pos, WI_neg]
    exact ⟨z, l, rfl, Or.inr ⟨fun hg => hno hg.2.2.1, hF⟩⟩
  have ho : lnO σ sn := hO.mpr hw
  rw [cif_t ho]
  by_cases h7 : σ 3 < 6
  case neg =>
    rw [if_neg h7]
    have h6' : σ 3 = 6 := by omega
    simp (disch := first | assumption | omega) only [↓b_hid, bH_some, ↓hid_W, W_some, I3_a, I3_s, I3_m, I3_n, I3_l, I3_lt, I3_le, I3_e, I3_dv, I3_rm, I3_mx, I3_mn, I3_ab, cI, bI_0, bI_1, rZ_b, up_same, up_row, up_col, xr_some, LQ_r, LQ_l, Int.sub_self, Int.add_zero, Int.zero_add, Int.sub_zero, Int.neg_neg, not_true_eq_false, not_false_eq_true, Int.add_sub_cancel, ↓ite_iH, iH_t, iH_f, bH_iH, ↓bH_bind, xr_iH, ↓xr_bind, W_iH, WI_t, WI_f, gI_189, pI_189, iO_189, gR_189_0, aI_190, sI_190, gR_189_1, aI_191, sI_191, gR_189_3, aI_192, gR_189_10, aI_193, sI_193, gR_189_11, aI_194, sI_194, gR_189_13, aI_195, sI_195, gR_189_15, aI_196, sI_196, gR_189_17, aI_197, sI_197, gR_189_18, aI_198, sI_198, gR_189_19, aI_199, sI_199, gR_189_20, aI_200, sI_200, gR_189_23, aI_201, gR_189_24, aI_202, sI_202, gR_189_25, aI_203, sI_203, gR_189_29, aI_204, sI_204, gR_189_32, aI_205, sI_205, gR_189_35, aI_206, sI_206, pZ_189, gL_189, pL_189, hσ, h6', iH_pos, iH_neg, WI_pos, WI_neg]
    exact ⟨z, l, rfl, Or.inr ⟨fun hg => by have := hg.2.2.2; omega, hF⟩⟩
  rw [if_pos h7]
  have hVP := V_lnP hV hs3 hn ho h7
  have fin : ∀ (z1 : Nat → Int → Int), z1 190 = σ → CMo z n σ σ z1 → WP (f_X12_learn_287 189 (I3 (lnG σ sn).2.2.1) (I3 (lnG σ sn).2.2.2.1) (I3 (lnG σ sn).2.2.2.2) (I3 (lnH σ sn)) (I3 (lnS σ sn)) (I3 (lnG σ sn).2.1) (I3 (lnG σ sn).1) 189 (M p z1 l)) (fun r => ∃ z' l', r = (I3 (σ 3), M p z' l') ∧ (((0 ≤ (sn : Int) ∧ (sn : Int) ≤ 2) ∧ ¬noL σ sn ∧ lnO σ sn ∧ σ 3 < 6) ∧ CMo z0 n σ (lnP σ sn) z' ∨ ¬((0 ≤ (sn : Int) ∧ (sn : Int) ≤ 2) ∧ ¬noL σ sn ∧ lnO σ sn ∧ σ 3 < 6) ∧ FrQ z0 z')) := by
    intro z1 a1 a2
    unfold f_X12_learn_287 lnP
    unfold lnP at hVP
    generalize lnG σ sn = K at *
    obtain ⟨K1, K2, K3, K4, K5⟩ := K
    simp only at hVP ⊢
    simp (disch := first | assumption | omega) only [↓b_hid, bH_some, ↓hid_W, W_some, I3_a, I3_s, I3_m, I3_n, I3_l, I3_lt, I3_le, I3_e, I3_dv, I3_rm, I3_mx, I3_mn, I3_ab, cI, bI_0, bI_1, rZ_b, up_same, up_row, up_col, xr_some, LQ_r, LQ_l, Int.sub_self, Int.add_zero, Int.zero_add, Int.sub_zero, Int.neg_neg, not_true_eq_false, not_false_eq_true, Int.add_sub_cancel, ↓ite_iH, iH_t, iH_f, bH_iH, ↓bH_bind, xr_iH, ↓xr_bind, W_iH, WI_t, WI_f, gI_189, pI_189, iO_189, gR_189_0, aI_190, sI_190, gR_189_1, aI_191, sI_191, gR_189_3, aI_192, gR_189_10, aI_193, sI_193, gR_189_11, aI_194, sI_194, gR_189_13, aI_195, sI_195, gR_189_15, aI_196, sI_196, gR_189_17, aI_197, sI_197, gR_189_18, aI_198, sI_198, gR_189_19, aI_199, sI_199, gR_189_20, aI_200, sI_200, gR_189_23, aI_201, gR_189_24, aI_202, sI_202, gR_189_25, aI_203, sI_203, gR_189_29, aI_204, sI_204, gR_189_32, aI_205, sI_205, gR_189_35, aI_206, sI_206, pZ_189, gL_189, pL_189]
    refine W_bH (W_imp (w_addsP (k := K1) (b := K2) (o := 0) (r := 0) a1 v3.1 h7) ?_)
    rintro _ ⟨z5, rfl, c1, c2⟩
    have e3 : z5 190 3 = σ 3 + 1 := by rw [c1]; unfold midP; rw [if_pos rfl]
    have e1 : σ 3 + 1 - 1 = σ 3 := by omega
    simp (disch := first | assumption | omega) only [↓b_hid, bH_some, ↓hid_W, W_some, I3_a, I3_s, I3_m, I3_n, I3_l, I3_lt, I3_le, I3_e, I3_dv, I3_rm, I3_mx, I3_mn, I3_ab, cI, bI_0, bI_1, rZ_b, up_same, up_row, up_col, xr_some, LQ_r, LQ_l, Int.sub_self, Int.add_zero, Int.zero_add, Int.sub_zero, Int.neg_neg, not_true_eq_false, not_false_eq_true, Int.add_sub_cancel, ↓ite_iH, iH_t, iH_f, bH_iH, ↓bH_bind, xr_iH, ↓xr_bind, W_iH, WI_t, WI_f, gI_189, pI_189, iO_189, gR_189_0, aI_190, sI_190, gR_189_1, aI_191, sI_191, gR_189_3, aI_192, gR_189_10, aI_193, sI_193, gR_189_11, aI_194, sI_194, gR_189_13, aI_195, sI_195, gR_189_15, aI_196, sI_196, gR_189_17, aI_197, sI_197, gR_189_18, aI_198, sI_198, gR_189_19, aI_199, sI_199, gR_189_20, aI_200, sI_200, gR_189_23, aI_201, gR_189_24, aI_202, sI_202, gR_189_25, aI_203, sI_203, gR_189_29, aI_204, sI_204, gR_189_32, aI_205, sI_205, gR_189_35, aI_206, sI_206, pZ_189, gL_189, pL_189, e3, e1]
    refine W_bH (W_imp (w_setsL (h := lnH σ sn) (s := lnS σ sn) (a := K3) (x := K4) (y := K5) c1 v3.1 h7) ?_)
    rintro _ ⟨z6, rfl, d1, d2⟩
    have e36 : z6 190 3 = σ 3 + 1 := by rw [d1, addP_3]
    simp (disch := first | assumption | omega) only [↓b_hid, bH_some, ↓hid_W, W_some, I3_a, I3_s, I3_m, I3_n, I3_l, I3_lt, I3_le, I3_e, I3_dv, I3_rm, I3_mx, I3_mn, I3_ab, cI, bI_0, bI_1, rZ_b, up_same, up_row, up_col, xr_some, LQ_r, LQ_l, Int.sub_self, Int.add_zero, Int.zero_add, Int.sub_zero, Int.neg_neg, not_true_eq_false, not_false_eq_true, Int.add_sub_cancel, ↓ite_iH, iH_t, iH_f, bH_iH, ↓bH_bind, xr_iH, ↓xr_bind, W_iH, WI_t, WI_f, gI_189, pI_189, iO_189, gR_189_0, aI_190, sI_190, gR_189_1, aI_191, sI_191, gR_189_3, aI_192, gR_189_10, aI_193, sI_193, gR_189_11, aI_194, sI_194, gR_189_13, aI_195, sI_195, gR_189_15, aI_196, sI_196, gR_189_17, aI_197, sI_197, gR_189_18, aI_198, sI_198, gR_189_19, aI_199, sI_199, gR_189_20, aI_200, sI_200, gR_189_23, aI_201, gR_189_24, aI_202, sI_202, gR_189_25, aI_203, sI_203, gR_189_29, aI_204, sI_204, gR_189_32, aI_205, sI_205, gR_189_35, aI_206, sI_206, pZ_189, gL_189, pL_189, e36, e1]
    have hm := CMo_mod a2 (fun c hc => (d2 c hc).trans (c2 c hc)) hVP (fun j j0 j1 => by rw [d1])
    refine ⟨z6, l, rfl, Or.inl ⟨⟨by omega, hn, ho, h7⟩, ?_⟩⟩
    obtain ⟨m1, m2, m3, m4, m5, m6, m7⟩ := hm
    obtain ⟨f1, f2, f3, f4, f5⟩ := hF
    exact ⟨fun k hk => (m1 k hk).trans (f1 k hk), m2.trans f4, m3.trans (f5 4 (by decide)), m4, m5, m6, fun j k j0 j1 k0 k1 => by rw [m7 j k j0 j1 k0 k1, show pst6 z = pst6 z0 by unfold pst6; rw [f3]]⟩
  rcases k5 with ⟨q1, q2, q3⟩ | ⟨q1, q2, q3⟩
  · rw [q1]
    rw [q2, q3] at fin
    simp (disch := first | assumption | omega) only [↓b_hid, bH_some, ↓hid_W, W_some, I3_a, I3_s, I3_m, I3_n, I3_l, I3_lt, I3_le, I3_e, I3_dv, I3_rm, I3_mx, I3_mn, I3_ab, cI, bI_0, bI_1, rZ_b, up_same, up_row, up_col, xr_some, LQ_r, LQ_l, Int.sub_self, Int.add_zero, Int.zero_add, Int.sub_zero, Int.neg_neg, not_true_eq_false, not_false_eq_true, Int.add_sub_cancel, ↓ite_iH, iH_t, iH_f, bH_iH, ↓bH_bind, xr_iH, ↓xr_bind, W_iH, WI_t, WI_f, gI_189, pI_189, iO_189, gR_189_0, aI_190, sI_190, gR_189_1, aI_191, sI_191, gR_189_3, aI_192, gR_189_10, aI_193, sI_193, gR_189_11, aI_194, sI_194, gR_189_13, aI_195, sI_195, gR_189_15, aI_196, sI_196, gR_189_17, aI_197, sI_197, gR_189_18, aI_198, sI_198, gR_189_19, aI_199, sI_199, gR_189_20, aI_200, sI_200, gR_189_23, aI_201, gR_189_24, aI_202, sI_202, gR_189_25, aI_203, sI_203, gR_189_29, aI_204, sI_204, gR_189_32, aI_205, sI_205, gR_189_35, aI_206, sI_206, pZ_189, gL_189, pL_189, hσ, iH_pos, iH_neg, WI_pos, WI_neg]
    refine W_bH (W_imp (m_noteC hσ hV h2 h0 h6) ?_)
    rintro _ ⟨z1, rfl, a1, a2, a3⟩
    have e2 : z1 200 0 = lnM σ sn := by rw [a3.1 200 (by decide) (by decide)]; exact e200
    have := fin z1 a1 a2
    simp (disch := first | assumption | omega) only [↓b_hid, bH_some, ↓hid_W, W_some, I3_a, I3_s, I3_m, I3_n, I3_l, I3_lt, I3_le, I3_e, I3_dv, I3_rm, I3_mx, I3_mn, I3_ab, cI, bI_0, bI_1, rZ_b, up_same, up_row, up_col, xr_some, LQ_r, LQ_l, Int.sub_self, Int.add_zero, Int.zero_add, Int.sub_zero, Int.neg_neg, not_true_eq_false, not_false_eq_true, Int.add_sub_cancel, ↓ite_iH, iH_t, iH_f, bH_iH, ↓bH_bind, xr_iH, ↓xr_bind, W_iH, WI_t, WI_f, gI_189, pI_189, iO_189, gR_189_0, aI_190, sI_190, gR_189_1, aI_191, sI_191, gR_189_3, aI_192, gR_189_10, aI_193, sI_193, gR_189_11, aI_194, sI_194, gR_189_13, aI_195, sI_195, gR_189_15, aI_196, sI_196, gR_189_17, aI_197, sI_197, gR_189_18, aI_198, sI_198, gR_189_19, aI_199, sI_199, gR_189_20, aI_200, sI_200, gR_189_23, aI_201, gR_189_24, aI_202, sI_202, gR_189_25, aI_203, sI_203, gR_189_29, aI_204, sI_204, gR_189_32, aI_205, sI_205, gR_189_35, aI_206, sI_206, pZ_189, gL_189, pL_189, f_X12_learn_259, e2, iH_pos, iH_neg, WI_pos, WI_neg]
    exact this
  · rw [q1]
    rw [q2, q3] at fin
    simp (disch := first | assumption | omega) only [↓b_hid, bH_some, ↓hid_W, W_some, I3_a, I3_s, I3_m, I3_n, I3_l, I3_lt, I3_le, I3_e, I3_dv, I3_rm, I3_mx, I3_mn, I3_ab, cI, bI_0, bI_1, rZ_b, up_same, up_row, up_col, xr_some, LQ_r, LQ_l, Int.sub_self, Int.add_zero, Int.zero_add, Int.sub_zero, Int.neg_neg, not_true_eq_false, not_false_eq_true, Int.add_sub_cancel, ↓ite_iH, iH_t, iH_f, bH_iH, ↓bH_bind, xr_iH, ↓xr_bind, W_iH, WI_t, WI_f, gI_189, pI_189, iO_189, gR_189_0, aI_190, sI_190, gR_189_1, aI_191, sI_191, gR_189_3, aI_192, gR_189_10, aI_193, sI_193, gR_189_11, aI_194, sI_194, gR_189_13, aI_195, sI_195, gR_189_15, aI_196, sI_196, gR_189_17, aI_197, sI_197, gR_189_18, aI_198, sI_198, gR_189_19, aI_199, sI_199, gR_189_20, aI_200, sI_200, gR_189_23, aI_201, gR_189_24, aI_202, sI_202, gR_189_25, aI_203, sI_203, gR_189_29, aI_204, sI_204, gR_189_32, aI_205, sI_205, gR_189_35, aI_206, sI_206, pZ_189, gL_189, pL_189, hσ, iH_pos, iH_neg, WI_pos, WI_neg]
    refine W_bH (W_imp (m_noteC hσ hV h2 h0 h6) ?_)
    rintro _ ⟨z1, rfl, a1, a2, a3⟩
    have e2 : z1 200 0 = lnM σ sn := by rw [a3.1 200 (by decide) (by decide)]; exact e200
    have := fin z1 a1 a2
    simp (disch := first | assumption | omega) only [↓b_hid, bH_some, ↓hid_W, W_some, I3_a, I3_s, I3_m, I3_n, I3_l, I3_lt, I3_le, I3_e, I3_dv, I3_rm, I3_mx, I3_mn, I3_ab, cI, bI_0, bI_1, rZ_b, up_same, up_row, up_col, xr_some, LQ_r, LQ_l, Int.sub_self, Int.add_zero, Int.zero_add, Int.sub_zero, Int.neg_neg, not_true_eq_false, not_false_eq_true, Int.add_sub_cancel, ↓ite_iH, iH_t, iH_f, bH_iH, ↓bH_bind, xr_iH, ↓xr_bind, W_iH, WI_t, WI_f, gI_189, pI_189, iO_189, gR_189_0, aI_190, sI_190, gR_189_1, aI_191, sI_191, gR_189_3, aI_192, gR_189_10, aI_193, sI_193, gR_189_11, aI_194, sI_194, gR_189_13, aI_195, sI_195, gR_189_15, aI_196, sI_196, gR_189_17, aI_197, sI_197, gR_189_18, aI_198, sI_198, gR_189_19, aI_199, sI_199, gR_189_20, aI_200, sI_200, gR_189_23, aI_201, gR_189_24, aI_202, sI_202, gR_189_25, aI_203, sI_203, gR_189_29, aI_204, sI_204, gR_189_32, aI_205, sI_205, gR_189_35, aI_206, sI_206, pZ_189, gL_189, pL_189, f_X12_learn_259, e2, iH_pos, iH_neg, WI_pos, WI_neg]
    exact this
set_option maxHeartbeats 4000000 in
theorem m_learn {s n : Int} {σ : Int → Int} (hs : -2147483648 ≤ s ∧ s < 2147483648) (hσ : z 190 = σ) (hV : V σ) (h2 : z 189 2 = n) (h0 : 0 ≤ n) (h6 : n ≤ 6) : WP (f_X12_learn 189 (I3 s) (M p z l)) (LnQ σ s n p z) := by
  unfold f_X12_learn
  by_cases h1 : 0 ≤ s ∧ s ≤ 2
  case neg =>
    unfold LnQ A_learn G_learn
    rw [if_neg h1]
    simp (disch := first | assumption | omega) only [↓b_hid, bH_some, ↓hid_W, W_some, I3_a, I3_s, I3_m, I3_n, I3_l, I3_lt, I3_le, I3_e, I3_dv, I3_rm, I3_mx, I3_mn, I3_ab, cI, bI_0, bI_1, rZ_b, up_same, up_row, up_col, xr_some, LQ_r, LQ_l, Int.sub_self, Int.add_zero, Int.zero_add, Int.sub_zero, Int.neg_neg, not_true_eq_false, not_false_eq_true, Int.add_sub_cancel, ↓ite_iH, iH_t, iH_f, bH_iH, ↓bH_bind, xr_iH, ↓xr_bind, W_iH, WI_t, WI_f, m_isSlot, bI_f, iH_pos, iH_neg, WI_pos, WI_neg]
    exact ⟨z, l, rfl, Or.inr ⟨fun hg => h1 hg.1, FrQ_r z⟩⟩
  have hs3 : s.toNat < 3 := by omega
  have hss : s = ((s.toNat : Nat) : Int) := by omega
  simp (disch := first | assumption | omega) only [↓b_hid, bH_some, ↓hid_W, W_some, I3_a, I3_s, I3_m, I3_n, I3_l, I3_lt, I3_le, I3_e, I3_dv, I3_rm, I3_mx, I3_mn, I3_ab, cI, bI_0, bI_1, rZ_b, up_same, up_row, up_col, xr_some, LQ_r, LQ_l, Int.sub_self, Int.add_zero, Int.zero_add, Int.sub_zero, Int.neg_neg, not_true_eq_false, not_false_eq_true, Int.add_sub_cancel, ↓ite_iH, iH_t, iH_f, bH_iH, ↓bH_bind, xr_iH, ↓xr_bind, W_iH, WI_t, WI_f, gI_189, pI_189, iO_189, gR_189_0, aI_190, sI_190, gR_189_1, aI_191, sI_191, gR_189_3, aI_192, gR_189_10, aI_193, sI_193, gR_189_11, aI_194, sI_194, gR_189_13, aI_195, sI_195, gR_189_15, aI_196, sI_196, gR_189_17, aI_197, sI_197, gR_189_18, aI_198, sI_198, gR_189_19, aI_199, sI_199, gR_189_20, aI_200, sI_200, gR_189_23, aI_201, gR_189_24, aI_202, sI_202, gR_189_25, aI_203, sI_203, gR_189_29, aI_204, sI_204, gR_189_32, aI_205, sI_205, gR_189_35, aI_206, sI_206, pZ_189, gL_189, pL_189, m_isSlot, bI_t, iH_pos, iH_neg, WI_pos, WI_neg]
  generalize s.toNat = sn at *
  subst hss
  have ht := σ_tr hV hs3
  refine W_bH (W_imp (q_opens hσ hV hs3) ?_)
  rintro _ ⟨z1, rfl, a1, a2, a3⟩
  have a1 : FLm z1 (Lσ σ sn) := a1
  obtain ⟨n1, n2, n3⟩ := m_noL hV hs3 a1
  have no : noL σ sn → LnQ σ sn n p z (I3 (-2), M p z1 l) := fun hn => by
    unfold LnQ A_learn G_learn
    rw [if_pos h1, Int.toNat_natCast, cif_t hn]
    exact ⟨z1, l, rfl, Or.inr ⟨fun hg => hg.2.1 hn, a3⟩⟩
  by_cases hz0 : σ (83 + sn) = 0
  · have := n1.mpr hz0
    have := no (Or.inl hz0)
    simp (disch := first | assumption | omega) only [↓b_hid, bH_some, ↓hid_W, W_some, I3_a, I3_s, I3_m, I3_n, I3_l, I3_lt, I3_le, I3_e, I3_dv, I3_rm, I3_mx, I3_mn, I3_ab, cI, bI_0, bI_1, rZ_b, up_same, up_row, up_col, xr_some, LQ_r, LQ_l, Int.sub_self, Int.add_zero, Int.zero_add, Int.sub_zero, Int.neg_neg, not_true_eq_false, not_false_eq_true, Int.add_sub_cancel, ↓ite_iH, iH_t, iH_f, bH_iH, ↓bH_bind, xr_iH, ↓xr_bind, W_iH, WI_t, WI_f, gI_189, pI_189, iO_189, gR_189_0, aI_190, sI_190, gR_189_1, aI_191, sI_191, gR_189_3, aI_192, gR_189_10, aI_193, sI_193, gR_189_11, aI_194, sI_194, gR_189_13, aI_195, sI_195, gR_189_15, aI_196, sI_196, gR_189_17, aI_197, sI_197, gR_189_18, aI_198, sI_198, gR_189_19, aI_199, sI_199, gR_189_20, aI_200, sI_200, gR_189_23, aI_201, gR_189_24, aI_202, sI_202, gR_189_25, aI_203, sI_203, gR_189_29, aI_204, sI_204, gR_189_32, aI_205, sI_205, gR_189_35, aI_206, sI_206, pZ_189, gL_189, pL_189, iH_pos, iH_neg, WI_pos, WI_neg]
    exact this
  have h0' : ¬z1 189 21 = 0 := fun h => hz0 (n1.mp h)
  obtain ⟨m1, m2, m3⟩ := n2 (by omega)
  by_cases h5 : (gl (Lσ σ sn) 0).2 < 5
  · have := no (Or.inr h5)
    simp (disch := first | assumption | omega) only [↓b_hid, bH_some, ↓hid_W, W_some, I3_a, I3_s, I3_m, I3_n, I3_l, I3_lt, I3_le, I3_e, I3_dv, I3_rm, I3_mx, I3_mn, I3_ab, cI, bI_0, bI_1, rZ_b, up_same, up_row, up_col, xr_some, LQ_r, LQ_l, Int.sub_self, Int.add_zero, Int.zero_add, Int.sub_zero, Int.neg_neg, not_true_eq_false, not_false_eq_true, Int.add_sub_cancel, ↓ite_iH, iH_t, iH_f, bH_iH, ↓bH_bind, xr_iH, ↓xr_bind, W_iH, WI_t, WI_f, gI_189, pI_189, iO_189, gR_189_0, aI_190, sI_190, gR_189_1, aI_191, sI_191, gR_189_3, aI_192, gR_189_10, aI_193, sI_193, gR_189_11, aI_194, sI_194, gR_189_13, aI_195, sI_195, gR_189_15, aI_196, sI_196, gR_189_17, aI_197, sI_197, gR_189_18, aI_198, sI_198, gR_189_19, aI_199, sI_199, gR_189_20, aI_200, sI_200, gR_189_23, aI_201, gR_189_24, aI_202, sI_202, gR_189_25, aI_203, sI_203, gR_189_29, aI_204, sI_204, gR_189_32, aI_205, sI_205, gR_189_35, aI_206, sI_206, pZ_189, gL_189, pL_189, m1, iH_pos, iH_neg, WI_pos, WI_neg]
    exact this
  have hn : ¬noL σ sn := by
    rintro (h | h)
    · exact hz0 h
    · exact h5 h
  obtain ⟨r1, r2, r3, r4, r5, r6, r7⟩ := ln_r hV hs3 hn
  simp (disch := first | assumption | omega) only [↓b_hid, bH_some, ↓hid_W, W_some, I3_a, I3_s, I3_m, I3_n, I3_l, I3_lt, I3_le, I3_e, I3_dv, I3_rm, I3_mx, I3_mn, I3_ab, cI, bI_0, bI_1, rZ_b, up_same, up_row, up_col, xr_some, LQ_r, LQ_l, Int.sub_self, Int.add_zero, Int.zero_add, Int.sub_zero, Int.neg_neg, not_true_eq_false, not_false_eq_true, Int.add_sub_cancel, ↓ite_iH, iH_t, iH_f, bH_iH, ↓bH_bind, xr_iH, ↓xr_bind, W_iH, WI_t, WI_f, gI_189, pI_189, iO_189, gR_189_0, aI_190, sI_190, gR_189_1, aI_191, sI_191, gR_189_3, aI_192, gR_189_10, aI_193, sI_193, gR_189_11, aI_194, sI_194, gR_189_13, aI_195, sI_195, gR_189_15, aI_196, sI_196, gR_189_17, aI_197, sI_197, gR_189_18, aI_198, sI_198, gR_189_19, aI_199, sI_199, gR_189_20, aI_200, sI_200, gR_189_23, aI_201, gR_189_24, aI_202, sI_202, gR_189_25, aI_203, sI_203, gR_189_29, aI_204, sI_204, gR_189_32, aI_205, sI_205, gR_189_35, aI_206, sI_206, pZ_189, gL_189, pL_189, m1, iH_pos, iH_neg, WI_pos, WI_neg]
  refine W_bH (W_imp (m_findsC (side := 0) a1 a2 (by omega) ht.1.2 ht.2 (by unfold Lσ at h5; omega) (by omega)) ?_)
  rintro _ ⟨z2, rfl, b1, b2⟩
  have b1 : Mn z2 (lcl σ sn 0) := b1
  have A34 : z2 189 34 = (lcl σ sn 0).length := b1.1
  simp (disch := first | assumption | omega) only [↓b_hid, bH_some, ↓hid_W, W_some, I3_a, I3_s, I3_m, I3_n, I3_l, I3_lt, I3_le, I3_e, I3_dv, I3_rm, I3_mx, I3_mn, I3_ab, cI, bI_0, bI_1, rZ_b, up_same, up_row, up_col, xr_some, LQ_r, LQ_l, Int.sub_self, Int.add_zero, Int.zero_add, Int.sub_zero, Int.neg_neg, not_true_eq_false, not_false_eq_true, Int.add_sub_cancel, ↓ite_iH, iH_t, iH_f, bH_iH, ↓bH_bind, xr_iH, ↓xr_bind, W_iH, WI_t, WI_f, gI_189, pI_189, iO_189, gR_189_0, aI_190, sI_190, gR_189_1, aI_191, sI_191, gR_189_3, aI_192, gR_189_10, aI_193, sI_193, gR_189_11, aI_194, sI_194, gR_189_13, aI_195, sI_195, gR_189_15, aI_196, sI_196, gR_189_17, aI_197, sI_197, gR_189_18, aI_198, sI_198, gR_189_19, aI_199, sI_199, gR_189_20, aI_200, sI_200, gR_189_23, aI_201, gR_189_24, aI_202, sI_202, gR_189_25, aI_203, sI_203, gR_189_29, aI_204, sI_204, gR_189_32, aI_205, sI_205, gR_189_35, aI_206, sI_206, pZ_189, gL_189, pL_189, A34]
  refine W_bH (W_imp (m_findsC (side := 1) (FLm_G b2 a1) (Ed_G b2 a2) (by omega) ht.1.2 ht.2 (by unfold Lσ at h5; omega) (by omega)) ?_)
  rintro _ ⟨z3, rfl, c1, c2⟩
  have c1 : Mn z3 (lcl σ sn 1) := c1
  have B34 : z3 189 34 = (lcl σ sn 1).length := c1.1
  have hG := FrG_t b2 c2
  have e200 : z3 200 0 = lnM σ sn := by rw [hG.1 200 (by decide) (by decide) (by decide)]; exact m1
  have hQ := FrQ_t a3 (FrQ_G hG)
  have hσ3 : z3 190 = σ := hQ.2.1.trans hσ
  have h23 : z3 189 2 = n := (hQ.2.2.2.2 2 (by decide)).trans h2
  have mo0 : f_X12_meanOf 189 (I3 0) (M p z3 l) = some (I3 (lnH σ sn), M p z3 l) := m_meanOf (FLm_G hG a1) (Ed_G hG a2) (by omega) ht.1.2 ht.2 (by unfold Lσ at h5; omega) (by decide) (by decide)
  have mo1 : f_X12_meanOf 189 (I3 1) (M p z3 l) = some (I3 (lnS σ sn), M p z3 l) := m_meanOf (FLm_G hG a1) (Ed_G hG a2) (by omega) ht.1.2 ht.2 (by unfold Lσ at h5; omega) (by decide) (by decide)
  have no3 : ¬lnO σ sn → LnQ σ sn n p z (I3 (-2), M p z3 l) := fun hno => by
    unfold LnQ A_learn G_learn
    rw [if_pos h1, Int.toNat_natCast, cif_f hn, cif_f hno]
    exact ⟨z3, l, rfl, Or.inr ⟨fun hg => hno hg.2.2.1, hQ⟩⟩
  have g131 : ∀ x y : Int, ¬lnO σ sn → WP (f_X12_learn_131 189 (I3 x) (I3 y) (I3 0) (M p z3 l)) (LnQ σ sn n p z) := fun x y hno => by
    rw [q_ln131 mo0 mo1, W_some]; exact no3 hno
  by_cases hA1 : (lcl σ sn 0).length = 1
  · have hA2 : ((lcl σ sn 0).length : Int) = 1 := by omega
    by_cases hB2 : (lcl σ sn 1).length = 2
    · have hB3 : z3 189 34 = 2 := by omega
      have hC : lnC (lcl σ sn 0) (lcl σ sn 1) := Or.inl ⟨hA1, hB2⟩
      have hK : lnG σ sn = (0, (lnM σ sn - 3) / 2, lf (lcl σ sn 0) 0, lf (lcl σ sn 1) 0, lf (lcl σ sn 1) 1) := by unfold lnG lnK; rw [if_pos hA1]
      by_cases hb : (lnM σ sn - 3) / 2 ≤ 16
      · have q0 : z2 206 0 = lf (lcl σ sn 0) 0 := b1.2 0 (by omega) (by omega)
        have q1 : z3 206 0 = lf (lcl σ sn 1) 0 := c1.2 0 (by omega) (by omega)
        have q2 : z3 206 1 = lf (lcl σ sn 1) 1 := c1.2 1 (by omega) (by omega)
        have := q_ln210 (p := p) (z := z3) (l := l) (z0 := z) (v5 := 1) rfl hs3 hV hn hC (by rw [hK]; exact hb) (by rw [if_pos hA1]) hσ3 h23 h0 h6 e200 hQ
        rw [hK] at this
        simp (disch := first | assumption | omega) only [↓b_hid, bH_some, ↓hid_W, W_some, I3_a, I3_s, I3_m, I3_n, I3_l, I3_lt, I3_le, I3_e, I3_dv, I3_rm, I3_mx, I3_mn, I3_ab, cI, bI_0, bI_1, rZ_b, up_same, up_row, up_col, xr_some, LQ_r, LQ_l, Int.sub_self, Int.add_zero, Int.zero_add, Int.sub_zero, Int.neg_neg, not_true_eq_false, not_false_eq_true, Int.add_sub_cancel, ↓ite_iH, iH_t, iH_f, bH_iH, ↓bH_bind, xr_iH, ↓xr_bind, W_iH, WI_t, WI_f, gI_189, pI_189, iO_189, gR_189_0, aI_190, sI_190, gR_189_1, aI_191, sI_191, gR_189_3, aI_192, gR_189_10, aI_193, sI_193, gR_189_11, aI_194, sI_194, gR_189_13, aI_195, sI_195, gR_189_15, aI_196, sI_196, gR_189_17, aI_197, sI_197, gR_189_18, aI_198, sI_198, gR_189_19, aI_199, sI_199, gR_189_20, aI_200, sI_200, gR_189_23, aI_201, gR_189_24, aI_202, sI_202, gR_189_25, aI_203, sI_203, gR_189_29, aI_204, sI_204, gR_189_32, aI_205, sI_205, gR_189_35, aI_206, sI_206, pZ_189, gL_189, pL_189, hA2, hB3, e200, f_X12_learn_97, f_X12_learn_131, f_X12_learn_132, f_X12_learn_149, f_X12_learn_166, f_X12_learn_184, q0, q1, q2, mo0, mo1, iH_pos, iH_neg, WI_pos, WI_neg]
        exact this
      · have hno : ¬lnO σ sn := fun h => hb (by have := h.2.1; rw [show lnK (lnM σ sn) (lcl σ sn 0) (lcl σ sn 1) = lnG σ sn from rfl, hK] at this; exact this)
        have := fun x y => g131 x y hno
        simp (disch := first | assumption | omega) only [↓b_hid, bH_some, ↓hid_W, W_some, I3_a, I3_s, I3_m, I3_n, I3_l, I3_lt, I3_le, I3_e, I3_dv, I3_rm, I3_mx, I3_mn, I3_ab, cI, bI_0, bI_1, rZ_b, up_same, up_row, up_col, xr_some, LQ_r, LQ_l, Int.sub_self, Int.add_zero, Int.zero_add, Int.sub_zero, Int.neg_neg, not_true_eq_false, not_false_eq_true, Int.add_sub_cancel, ↓ite_iH, iH_t, iH_f, bH_iH, ↓bH_bind, xr_iH, ↓xr_bind, W_iH, WI_t, WI_f, gI_189, pI_189, iO_189, gR_189_0, aI_190, sI_190, gR_189_1, aI_191, sI_191, gR_189_3, aI_192, gR_189_10, aI_193, sI_193, gR_189_11, aI_194, sI_194, gR_189_13, aI_195, sI_195, gR_189_15, aI_196, sI_196, gR_189_17, aI_197, sI_197, gR_189_18, aI_198, sI_198, gR_189_19, aI_199, sI_199, gR_189_20, aI_200, sI_200, gR_189_23, aI_201, gR_189_24, aI_202, sI_202, gR_189_25, aI_203, sI_203, gR_189_29, aI_204, sI_204, gR_189_32, aI_205, sI_205, gR_189_35, aI_206, sI_206, pZ_189, gL_189, pL_189, hA2, hB3, e200, f_X12_learn_96, f_X12_learn_97, iH_pos, iH_neg, WI_pos, WI_neg]
        exact this _ _
    · have hno : ¬lnO σ sn := fun h => by have := h.1; unfold lnC at this; omega
      have := fun x y => g131 x y hno
      simp (disch := first | assumption | omega) only [↓b_hid, bH_some, ↓hid_W, W_some, I3_a, I3_s, I3_m, I3_n, I3_l, I3_lt, I3_le, I3_e, I3_dv, I3_rm, I3_mx, I3_mn, I3_ab, cI, bI_0, bI_1, rZ_b, up_same, up_row, up_col, xr_some, LQ_r, LQ_l, Int.sub_self, Int.add_zero, Int.zero_add, Int.sub_zero, Int.neg_neg, not_true_eq_false, not_false_eq_true, Int.add_sub_cancel, ↓ite_iH, iH_t, iH_f, bH_iH, ↓bH_bind, xr_iH, ↓xr_bind, W_iH, WI_t, WI_f, gI_189, pI_189, iO_189, gR_189_0, aI_190, sI_190, gR_189_1, aI_191, sI_191, gR_189_3, aI_192, gR_189_10, aI_193, sI_193, gR_189_11, aI_194, sI_194, gR_189_13, aI_195, sI_195, gR_189_15, aI_196, sI_196, gR_189_17, aI_197, sI_197, gR_189_18, aI_198, sI_198, gR_189_19, aI_199, sI_199, gR_189_20, aI_200, sI_200, gR_189_23, aI_201, gR_189_24, aI_202, sI_202, gR_189_25, aI_203, sI_203, gR_189_29, aI_204, sI_204, gR_189_32, aI_205, sI_205, gR_189_35, aI_206, sI_206, pZ_189, gL_189, pL_189, hA2, B34, f_X12_learn_96, f_X12_learn_97, iH_pos, iH_neg, WI_pos, WI_neg]
      exact this _ _
  · by_cases hA2 : (lcl σ sn 0).length = 2
    · have hA3 : ((lcl σ sn 0).length : Int) = 2 := by omega
      by_cases hB1 : (lcl σ sn 1).length = 1
      · have hB3 : z3 189 34 = 1 := by omega
        have hC : lnC (lcl σ sn 0) (lcl σ sn 1) := Or.inr ⟨hA2, hB1⟩
        have hK : lnG σ sn = (1, (lnM σ sn - 1) / 2, lf (lcl σ sn 1) 0, lf (lcl σ sn 0) 0, lf (lcl σ sn 0) 1) := by unfold lnG lnK; rw [if_neg hA1]
        by_cases hb : (lnM σ sn - 1) / 2 ≤ 16
        · have q0 : z2 206 0 = lf (lcl σ sn 0) 0 := b1.2 0 (by omega) (by omega)
          have q1 : z2 206 1 = lf (lcl σ sn 0) 1 := b1.2 1 (by omega) (by omega)
          have q2 : z3 206 0 = lf (lcl σ sn 1) 0 := c1.2 0 (by omega) (by omega)
          have := q_ln210 (p := p) (z := z3) (l := l) (z0 := z) (v5 := 0) rfl hs3 hV hn hC (by rw [hK]; exact hb) (by rw [if_neg hA1]) hσ3 h23 h0 h6 e200 hQ
          rw [hK] at this
          simp (disch := first | assumption | omega) only [↓b_hid, bH_some, ↓hid_W, W_some, I3_a, I3_s, I3_m, I3_n, I3_l, I3_lt, I3_le, I3_e, I3_dv, I3_rm, I3_mx, I3_mn, I3_ab, cI, bI_0, bI_1, rZ_b, up_same, up_row, up_col, xr_some, LQ_r, LQ_l, Int.sub_self, Int.add_zero, Int.zero_add, Int.sub_zero, Int.neg_neg, not_true_eq_false, not_false_eq_true, Int.add_sub_cancel, ↓ite_iH, iH_t, iH_f, bH_iH, ↓bH_bind, xr_iH, ↓xr_bind, W_iH, WI_t, WI_f, gI_189, pI_189, iO_189, gR_189_0, aI_190, sI_190, gR_189_1, aI_191, sI_191, gR_189_3, aI_192, gR_189_10, aI_193, sI_193, gR_189_11, aI_194, sI_194, gR_189_13, aI_195, sI_195, gR_189_15, aI_196, sI_196, gR_189_17, aI_197, sI_197, gR_189_18, aI_198, sI_198, gR_189_19, aI_199, sI_199, gR_189_20, aI_200, sI_200, gR_189_23, aI_201, gR_189_24, aI_202, sI_202, gR_189_25, aI_203, sI_203, gR_189_29, aI_204, sI_204, gR_189_32, aI_205, sI_205, gR_189_35, aI_206, sI_206, pZ_189, gL_189, pL_189, hA3, hB3, e200, f_X12_learn_96, f_X12_learn_97, f_X12_learn_131, f_X12_learn_132, f_X12_learn_149, f_X12_learn_166, f_X12_learn_184, q0, q1, q2, mo0, mo1, iH_pos, iH_neg, WI_pos, WI_neg]
          exact this
        · have hno : ¬lnO σ sn := fun h => hb (by have := h.2.1; rw [show lnK (lnM σ sn) (lcl σ sn 0) (lcl σ sn 1) = lnG σ sn from rfl, hK] at this; exact this)
          have := fun x y => g131 x y hno
          simp (disch := first | assumption | omega) only [↓b_hid, bH_some, ↓hid_W, W_some, I3_a, I3_s, I3_m, I3_n, I3_l, I3_lt, I3_le, I3_e, I3_dv, I3_rm, I3_mx, I3_mn, I3_ab, cI, bI_0, bI_1, rZ_b, up_same, up_row, up_col, xr_some, LQ_r, LQ_l, Int.sub_self, Int.add_zero, Int.zero_add, Int.sub_zero, Int.neg_neg, not_true_eq_false, not_false_eq_true, Int.add_sub_cancel, ↓ite_iH, iH_t, iH_f, bH_iH, ↓bH_bind, xr_iH, ↓xr_bind, W_iH, WI_t, WI_f, gI_189, pI_189, iO_189, gR_189_0, aI_190, sI_190, gR_189_1, aI_191, sI_191, gR_189_3, aI_192, gR_189_10, aI_193, sI_193, gR_189_11, aI_194, sI_194, gR_189_13, aI_195, sI_195, gR_189_15, aI_196, sI_196, gR_189_17, aI_197, sI_197, gR_189_18, aI_198, sI_198, gR_189_19, aI_199, sI_199, gR_189_20, aI_200, sI_200, gR_189_23, aI_201, gR_189_24, aI_202, sI_202, gR_189_25, aI_203, sI_203, gR_189_29, aI_204, sI_204, gR_189_32, aI_205, sI_205, gR_189_35, aI_206, sI_206, pZ_189, gL_189, pL_189, hA3, hB3, e200, f_X12_learn_96, f_X12_learn_97, iH_pos, iH_neg, WI_pos, WI_neg]
          exact this _ _
      · have hno : ¬lnO σ sn := fun h => by have := h.1; unfold lnC at this; omega
        have := fun x y => g131 x y hno
        have hB3 : ¬((lcl σ sn 1).length : Int) = 1 := by omega
        simp (disch := first | assumption | omega) only [↓b_hid, bH_some, ↓hid_W, W_some, I3_a, I3_s, I3_m, I3_n, I3_l, I3_lt, I3_le, I3_e, I3_dv, I3_rm, I3_mx, I3_mn, I3_ab, cI, bI_0, bI_1, rZ_b, up_same, up_row, up_col, xr_some, LQ_r, LQ_l, Int.sub_self, Int.add_zero, Int.zero_add, Int.sub_zero, Int.neg_neg, not_true_eq_false, not_false_eq_true, Int.add_sub_cancel, ↓ite_iH, iH_t, iH_f, bH_iH, ↓bH_bind, xr_iH, ↓xr_bind, W_iH, WI_t, WI_f, gI_189, pI_189, iO_189, gR_189_0, aI_190, sI_190, gR_189_1, aI_191, sI_191, gR_189_3, aI_192, gR_189_10, aI_193, sI_193, gR_189_11, aI_194, sI_194, gR_189_13, aI_195, sI_195, gR_189_15, aI_196, sI_196, gR_189_17, aI_197, sI_197, gR_189_18, aI_198, sI_198, gR_189_19, aI_199, sI_199, gR_189_20, aI_200, sI_200, gR_189_23, aI_201, gR_189_24, aI_202, sI_202, gR_189_25, aI_203, sI_203, gR_189_29, aI_204, sI_204, gR_189_32, aI_205, sI_205, gR_189_35, aI_206, sI_206, pZ_189, gL_189, pL_189, hA3, B34, f_X12_learn_96, f_X12_learn_97, iH_pos, iH_neg, WI_pos, WI_neg]
        exact this _ _
    · have hno : ¬lnO σ sn := fun h => by have := h.1; unfold lnC at this; omega
      have := fun x y => g131 x y hno
      have hA3 : ¬((lcl σ sn 0).length : Int) = 1 := by omega
      have hA4 : ¬((lcl σ sn 0).length : Int) = 2 := by omega
      simp (disch := first | assumption | omega) only [↓b_hid, bH_some, ↓hid_W, W_some, I3_a, I3_s, I3_m, I3_n, I3_l, I3_lt, I3_le, I3_e, I3_dv, I3_rm, I3_mx, I3_mn, I3_ab, cI, bI_0, bI_1, rZ_b, up_same, up_row, up_col, xr_some, LQ_r, LQ_l, Int.sub_self, Int.add_zero, Int.zero_add, Int.sub_zero, Int.neg_neg, not_true_eq_false, not_false_eq_true, Int.add_sub_cancel, ↓ite_iH, iH_t, iH_f, bH_iH, ↓bH_bind, xr_iH, ↓xr_bind, W_iH, WI_t, WI_f, gI_189, pI_189, iO_189, gR_189_0, aI_190, sI_190, gR_189_1, aI_191, sI_191, gR_189_3, aI_192, gR_189_10, aI_193, sI_193, gR_189_11, aI_194, sI_194, gR_189_13, aI_195, sI_195, gR_189_15, aI_196, sI_196, gR_189_17, aI_197, sI_197, gR_189_18, aI_198, sI_198, gR_189_19, aI_199, sI_199, gR_189_20, aI_200, sI_200, gR_189_23, aI_201, gR_189_24, aI_202, sI_202, gR_189_25, aI_203, sI_203, gR_189_29, aI_204, sI_204, gR_189_32, aI_205, sI_205, gR_189_35, aI_206, sI_206, pZ_189, gL_189, pL_189, A34, B34, f_X12_learn_96, f_X12_learn_97, iH_pos, iH_neg, WI_pos, WI_neg]
      exact this _ _
end
theorem j_learn (a : Int32) : JT (f_X11_learn 0 a) (f_X12_learn 189 a) := by
  obtain ⟨s, hs, rfl⟩ := i3x a
  exact JT_c (fun σ => A_learn σ s) (fun σ => G_learn σ s) (fun σ => lnP σ s.toNat) (fun p z l σ n h hp hV hS h0 h6 hH => c_learn hs hp hV hS h0 h6 hH) (fun p z l σ n hσ hV h2 h0 h6 => m_learn hs hσ hV h2 h0 h6)
