/-! overlay(): both sides. -/
def xσ (σ : Int → Int) (s : Nat) : Dn := (σ (83 + s), dσ σ s)
theorem Gd_xσ {σ : Int → Int} {s : Nat} (hV : V σ) (hs : s < 3) : Gd (xσ σ s) := σ_tr hV hs
def ovD (σ : Int → Int) (s t : Nat) (o : Int) : List Int := colD (xσ σ s) (xσ σ t) o
def oOk (D : List Int) : Prop := D.length ≤ 200 ∧ ∀ i : Int, 0 ≤ i → i < D.length → lf D i ≤ 60000
def ovX (D : List Int) : Dn := (D.length, lf D)
noncomputable def A_ov (σ : Int → Int) (s t o : Int) : Int := if 0 ≤ s ∧ s ≤ 2 then (if 0 ≤ t ∧ t ≤ 2 then (if s = t then -1 else if 0 ≤ o ∧ o ≤ 60000 then (if σ (83 + s) % 2 = 1 then (if σ (83 + t) % 2 = 1 then cif (oOk (ovD σ s.toNat t.toNat o)) (ovD σ s.toNat t.toNat o).length (-3) else -2) else -2) else -1) else -1) else -1
def G_ov (σ : Int → Int) (s t o : Int) : Prop := (0 ≤ s ∧ s ≤ 2) ∧ (0 ≤ t ∧ t ≤ 2) ∧ ¬s = t ∧ (0 ≤ o ∧ o ≤ 60000) ∧ σ (83 + s) % 2 = 1 ∧ σ (83 + t) % 2 = 1 ∧ oOk (ovD σ s.toNat t.toNat o)
theorem Gd_ov {σ : Int → Int} {s t : Nat} {o : Int} (hV : V σ) (hs : s < 3) (ht : t < 3) (ho : 0 ≤ o ∧ o ≤ 60000) (hO : oOk (ovD σ s t o)) : Gd (ovX (ovD σ s t o)) := by
  have hg := colD_g (Gd_xσ hV hs) (Gd_xσ hV ht) ho
  refine ⟨⟨by unfold ovX; simp only; omega, by have := hO.1; unfold ovX; simp only; omega⟩, fun i i0 i1 => ?_⟩
  have h1 := hg _ (lf_mem (D := ovD σ s t o) i0 i1)
  exact ⟨h1.1, hO.2 i i0 i1⟩
section
variable {p : Nat → Nat} {z l : Nat → Int → Int}
set_option maxHeartbeats 4000000 in
theorem c_over {s t o n : Int} {σ : Int → Int} {h : Int → Int → Int} (hs : -2147483648 ≤ s ∧ s < 2147483648) (ht : -2147483648 ≤ t ∧ t < 2147483648) (ho : -2147483648 ≤ o ∧ o < 2147483648) (hp : PB p) (hV : V σ) (hS : St z (p 0) σ) (h0 : 0 ≤ n) (h6 : n ≤ 6) (hH : Hs z p n h) : WP (f_X11_overlay 0 (I3 s) (I3 t) (I3 o) (M p z l)) (fun r => ∃ p' z' l', r = (I3 (A_ov σ s t o), M p' z' l') ∧ ((G_ov σ s t o ∧ CX p z n h σ (tσ σ s.toNat (ovX (ovD σ s.toNat t.toNat o))) p' z') ∨ (¬G_ov σ s t o ∧ p' = p ∧ FrX z z'))) := by
  have hb := hp.1 0 (by omega)
  have hr := isB_r hb
  unfold f_X11_overlay A_ov G_ov
  by_cases h1 : 0 ≤ s ∧ s ≤ 2
  case neg =>
    rw [if_neg h1]
    simp (disch := first | assumption | omega) only [↓b_hid, bH_some, ↓hid_W, W_some, I3_a, I3_s, I3_m, I3_n, I3_l, I3_lt, I3_le, I3_e, I3_dv, I3_rm, I3_mx, I3_mn, I3_ab, cI, bI_0, bI_1, rZ_b, up_same, up_row, up_col, xr_some, LQ_r, LQ_l, Int.sub_self, Int.add_zero, Int.zero_add, Int.sub_zero, Int.neg_neg, not_true_eq_false, not_false_eq_true, Int.add_sub_cancel, ↓ite_iH, iH_t, iH_f, bH_iH, ↓bH_bind, xr_iH, ↓xr_bind, W_iH, WI_t, WI_f, g_isSlot, bI_f, iH_pos, iH_neg, WI_pos, WI_neg]
    exact ⟨p, z, l, rfl, Or.inr ⟨fun hg => h1 hg.1, rfl, FrX_r z⟩⟩
  rw [if_pos h1]
  by_cases h2 : 0 ≤ t ∧ t ≤ 2
  case neg =>
    rw [if_neg h2]
    simp (disch := first | assumption | omega) only [↓b_hid, bH_some, ↓hid_W, W_some, I3_a, I3_s, I3_m, I3_n, I3_l, I3_lt, I3_le, I3_e, I3_dv, I3_rm, I3_mx, I3_mn, I3_ab, cI, bI_0, bI_1, rZ_b, up_same, up_row, up_col, xr_some, LQ_r, LQ_l, Int.sub_self, Int.add_zero, Int.zero_add, Int.sub_zero, Int.neg_neg, not_true_eq_false, not_false_eq_true, Int.add_sub_cancel, ↓ite_iH, iH_t, iH_f, bH_iH, ↓bH_bind, xr_iH, ↓xr_bind, W_iH, WI_t, WI_f, g_isSlot, bI_t, bI_f, iH_pos, iH_neg, WI_pos, WI_neg]
    exact ⟨p, z, l, rfl, Or.inr ⟨fun hg => h2 hg.2.1, rfl, FrX_r z⟩⟩
  rw [if_pos h2]
  by_cases h3 : s = t
  · rw [if_pos h3]
    simp (disch := first | assumption | omega) only [↓b_hid, bH_some, ↓hid_W, W_some, I3_a, I3_s, I3_m, I3_n, I3_l, I3_lt, I3_le, I3_e, I3_dv, I3_rm, I3_mx, I3_mn, I3_ab, cI, bI_0, bI_1, rZ_b, up_same, up_row, up_col, xr_some, LQ_r, LQ_l, Int.sub_self, Int.add_zero, Int.zero_add, Int.sub_zero, Int.neg_neg, not_true_eq_false, not_false_eq_true, Int.add_sub_cancel, ↓ite_iH, iH_t, iH_f, bH_iH, ↓bH_bind, xr_iH, ↓xr_bind, W_iH, WI_t, WI_f, g_isSlot, bI_t, iH_pos, iH_neg, WI_pos, WI_neg]
    exact ⟨p, z, l, rfl, Or.inr ⟨fun hg => hg.2.2.1 h3, rfl, FrX_r z⟩⟩
  rw [if_neg h3]
  by_cases h4 : 0 ≤ o ∧ o ≤ 60000
  case neg =>
    rw [if_neg h4]
    simp (disch := first | assumption | omega) only [↓b_hid, bH_some, ↓hid_W, W_some, I3_a, I3_s, I3_m, I3_n, I3_l, I3_lt, I3_le, I3_e, I3_dv, I3_rm, I3_mx, I3_mn, I3_ab, cI, bI_0, bI_1, rZ_b, up_same, up_row, up_col, xr_some, LQ_r, LQ_l, Int.sub_self, Int.add_zero, Int.zero_add, Int.sub_zero, Int.neg_neg, not_true_eq_false, not_false_eq_true, Int.add_sub_cancel, ↓ite_iH, iH_t, iH_f, bH_iH, ↓bH_bind, xr_iH, ↓xr_bind, W_iH, WI_t, WI_f, g_isSlot, bI_t, g_inRange, bI_f, iH_pos, iH_neg, WI_pos, WI_neg]
    exact ⟨p, z, l, rfl, Or.inr ⟨fun hg => h4 hg.2.2.2.1, rfl, FrX_r z⟩⟩
  rw [if_pos h4]
  obtain ⟨sn, rfl⟩ : ∃ m : Nat, s = m := ⟨s.toNat, by omega⟩
  obtain ⟨tn, rfl⟩ : ∃ m : Nat, t = m := ⟨t.toNat, by omega⟩
  simp only [Int.toNat_natCast]
  have hs3 : sn < 3 := by omega
  have ht3 : tn < 3 := by omega
  have gsa := g_trAt (p := p) (z := z) (l := l) (i := (sn : Int)) hb (by omega) (by omega)
  have gta := g_trAt (p := p) (z := z) (l := l) (i := (tn : Int)) hb (by omega) (by omega)
  rw [Int.toNat_natCast] at gsa gta
  have hve := σ_tr hV hs3
  have hvf := σ_tr hV ht3
  have gv := Gd_xσ hV hs3
  have gw := Gd_xσ hV ht3
  have TS := isT_B hb hs3
  have TT := isT_B hb ht3
  have hX1 : Trx z (p 0 + 12 + 2 * sn) (xσ σ sn) := hS.2.2 sn hs3
  have hX2 : Trx z (p 0 + 12 + 2 * tn) (xσ σ tn) := hS.2.2 tn ht3
  have e1 : z (p 0 + 12 + 2 * sn) 1 = σ (83 + sn) := hX1.1
  have e2 : z (p 0 + 12 + 2 * tn) 1 = σ (83 + tn) := hX2.1
  have w1 := g_ewm (p := p) (z := z) (l := l) TS (by omega) (by omega)
  have w2 := g_ewm (p := p) (z := z) (l := l) TT (by omega) (by omega)
  rw [e1] at w1
  rw [e2] at w2
  have hts : p 0 + 12 + 2 * sn + 1 < 53 ∨ 57 ≤ p 0 + 12 + 2 * sn := by omega
  have hts2 : p 0 + 12 + 2 * tn + 1 < 53 ∨ 57 ≤ p 0 + 12 + 2 * tn := by omega
  have hta32 : p 0 + 12 + 2 * sn ≠ 32 ∧ p 0 + 12 + 2 * sn ≠ 33 ∧ p 0 + 12 + 2 * sn + 1 ≠ 32 ∧ p 0 + 12 + 2 * sn + 1 ≠ 33 := by omega
  have htab : (p 0 ≤ p 0 + 12 + 2 * sn ∧ p 0 + 12 + 2 * sn + 1 < p 0 + 18) := by omega
  generalize htA : p 0 + 12 + 2 * sn = ta at *
  generalize htB : p 0 + 12 + 2 * tn = tb at *
  by_cases h5 : σ (83 + sn) % 2 = 1
  case neg =>
    rw [if_neg h5]
    rw [bI_f h5] at w1
    simp (disch := first | assumption | omega) only [↓b_hid, bH_some, ↓hid_W, W_some, I3_a, I3_s, I3_m, I3_n, I3_l, I3_lt, I3_le, I3_e, I3_dv, I3_rm, I3_mx, I3_mn, I3_ab, cI, bI_0, bI_1, rZ_b, up_same, up_row, up_col, xr_some, LQ_r, LQ_l, Int.sub_self, Int.add_zero, Int.zero_add, Int.sub_zero, Int.neg_neg, not_true_eq_false, not_false_eq_true, Int.add_sub_cancel, ↓ite_iH, iH_t, iH_f, bH_iH, ↓bH_bind, xr_iH, ↓xr_bind, W_iH, WI_t, WI_f, aR_34, aR_19, sR_19, gR_0_0, pR_0, gI_0, pI_0, iO_0, gR_0_1, gR_0_3, gR_0_4, gR_0_5, gR_0_6, gR_0_7, gR_0_8, gR_0_9, gR_0_10, gR_0_11, gI_B, pI_B, iO_B, gR_B0, gR_B1, aR_B, g_isSlot, g_inRange, bI_t, gsa, gta, iO_T TS, w1, iH_pos, iH_neg, WI_pos, WI_neg]
    exact ⟨p, z, l, rfl, Or.inr ⟨fun hg => h5 hg.2.2.2.2.1, rfl, FrX_r z⟩⟩
  rw [if_pos h5]
  rw [bI_t h5] at w1
  by_cases h7 : σ (83 + tn) % 2 = 1
  case neg =>
    rw [if_neg h7]
    rw [bI_f h7] at w2
    simp (disch := first | assumption | omega) only [↓b_hid, bH_some, ↓hid_W, W_some, I3_a, I3_s, I3_m, I3_n, I3_l, I3_lt, I3_le, I3_e, I3_dv, I3_rm, I3_mx, I3_mn, I3_ab, cI, bI_0, bI_1, rZ_b, up_same, up_row, up_col, xr_some, LQ_r, LQ_l, Int.sub_self, Int.add_zero, Int.zero_add, Int.sub_zero, Int.neg_neg, not_true_eq_false, not_false_eq_true, Int.add_sub_cancel, ↓ite_iH, iH_t, iH_f, bH_iH, ↓bH_bind, xr_iH, ↓xr_bind, W_iH, WI_t, WI_f, aR_34, aR_19, sR_19, gR_0_0, pR_0, gI_0, pI_0, iO_0, gR_0_1, gR_0_3, gR_0_4, gR_0_5, gR_0_6, gR_0_7, gR_0_8, gR_0_9, gR_0_10, gR_0_11, gI_B, pI_B, iO_B, gR_B0, gR_B1, aR_B, g_isSlot, g_inRange, bI_t, gsa, gta, iO_T TS, iO_T TT, w1, w2, iH_pos, iH_neg, WI_pos, WI_neg]
    exact ⟨p, z, l, rfl, Or.inr ⟨fun hg => h7 hg.2.2.2.2.2.1, rfl, FrX_r z⟩⟩
  rw [if_pos h7]
  rw [bI_t h7] at w2
  simp (disch := first | assumption | omega) only [↓b_hid, bH_some, ↓hid_W, W_some, I3_a, I3_s, I3_m, I3_n, I3_l, I3_lt, I3_le, I3_e, I3_dv, I3_rm, I3_mx, I3_mn, I3_ab, cI, bI_0, bI_1, rZ_b, up_same, up_row, up_col, xr_some, LQ_r, LQ_l, Int.sub_self, Int.add_zero, Int.zero_add, Int.sub_zero, Int.neg_neg, not_true_eq_false, not_false_eq_true, Int.add_sub_cancel, ↓ite_iH, iH_t, iH_f, bH_iH, ↓bH_bind, xr_iH, ↓xr_bind, W_iH, WI_t, WI_f, aR_34, aR_19, sR_19, gR_0_0, pR_0, gI_0, pI_0, iO_0, gR_0_1, gR_0_3, gR_0_4, gR_0_5, gR_0_6, gR_0_7, gR_0_8, gR_0_9, gR_0_10, gR_0_11, gI_B, pI_B, iO_B, gR_B0, gR_B1, aR_B, gI_52, pI_52, iO_52, gR_52_0, gR_52_1, pZ_52, g_isSlot, g_inRange, bI_t, gsa, gta, iO_T TS, iO_T TT, w1, w2, iH_pos, iH_neg, WI_pos, WI_neg]
  refine W_bH (W_imp (w_lay TS TT hts hts2 hX1 hX2 gv.1 gw.1) ?_)
  rintro _ ⟨z1, rfl, a1, a2, a3⟩
  simp (disch := first | assumption | omega) only [↓b_hid, bH_some, ↓hid_W, W_some, I3_a, I3_s, I3_m, I3_n, I3_l, I3_lt, I3_le, I3_e, I3_dv, I3_rm, I3_mx, I3_mn, I3_ab, cI, bI_0, bI_1, rZ_b, up_same, up_row, up_col, xr_some, LQ_r, LQ_l, Int.sub_self, Int.add_zero, Int.zero_add, Int.sub_zero, Int.neg_neg, not_true_eq_false, not_false_eq_true, Int.add_sub_cancel, ↓ite_iH, iH_t, iH_f, bH_iH, ↓bH_bind, xr_iH, ↓xr_bind, W_iH, WI_t, WI_f, aR_34, aR_19, sR_19, gR_0_0, pR_0, gI_0, pI_0, iO_0, gR_0_1, gR_0_3, gR_0_4, gR_0_5, gR_0_6, gR_0_7, gR_0_8, gR_0_9, gR_0_10, gR_0_11, gI_52, pI_52, iO_52, gR_52_0, gR_52_1, pZ_52]
  refine W_bH (W_imp (w_begin gv gw h4 a1 a2) ?_)
  rintro _ ⟨z2, rfl, b1, b2⟩
  have b2 : Ns z2 (xσ σ sn) (xσ σ tn) o (ovD σ sn tn o) := b2
  have hDg : ∀ v ∈ ovD σ sn tn o, 1 ≤ v ∧ v ≤ 13000000 := colD_g gv gw h4
  simp (disch := first | assumption | omega) only [↓b_hid, bH_some, ↓hid_W, W_some, I3_a, I3_s, I3_m, I3_n, I3_l, I3_lt, I3_le, I3_e, I3_dv, I3_rm, I3_mx, I3_mn, I3_ab, cI, bI_0, bI_1, rZ_b, up_same, up_row, up_col, xr_some, LQ_r, LQ_l, Int.sub_self, Int.add_zero, Int.zero_add, Int.sub_zero, Int.neg_neg, not_true_eq_false, not_false_eq_true, Int.add_sub_cancel, ↓ite_iH, iH_t, iH_f, bH_iH, ↓bH_bind, xr_iH, ↓xr_bind, W_iH, WI_t, WI_f, aR_34, aR_19, sR_19, gR_0_0, pR_0, gI_0, pI_0, iO_0, gR_0_1, gR_0_3, gR_0_4, gR_0_5, gR_0_6, gR_0_7, gR_0_8, gR_0_9, gR_0_10, gR_0_11, gI_52, pI_52, iO_52, gR_52_0, gR_52_1, pZ_52]
  refine W_bH (W_imp (w_writeTo gv gw h4 b2) ?_)
  rintro _ ⟨v, z3, rfl, c1, c2⟩
  have hF3 : ∀ k, k ≠ 32 → k ≠ 33 → (k < 52 ∨ 57 ≤ k) → z3 k = z k := fun k k0 k1 k2 => by rw [c1 k (by omega) k0 k1, b1 k (by omega), a3 k (by omega)]
  have hX : FrX z z3 := fun k hk => hF3 k (by omega) (by omega) (by omega)
  generalize hD : ovD σ sn tn o = D at *
  rcases c2 with ⟨c2, rfl, c3⟩ | ⟨c2, rfl⟩
  case inr =>
    have hno : ¬oOk D := fun h => by have := h.1; omega
    rw [cif_f hno]
    simp (disch := first | assumption | omega) only [↓b_hid, bH_some, ↓hid_W, W_some, I3_a, I3_s, I3_m, I3_n, I3_l, I3_lt, I3_le, I3_e, I3_dv, I3_rm, I3_mx, I3_mn, I3_ab, cI, bI_0, bI_1, rZ_b, up_same, up_row, up_col, xr_some, LQ_r, LQ_l, Int.sub_self, Int.add_zero, Int.zero_add, Int.sub_zero, Int.neg_neg, not_true_eq_false, not_false_eq_true, Int.add_sub_cancel, ↓ite_iH, iH_t, iH_f, bH_iH, ↓bH_bind, xr_iH, ↓xr_bind, W_iH, WI_t, WI_f, iH_pos, iH_neg, WI_pos, WI_neg]
    exact ⟨p, z3, l, rfl, Or.inr ⟨fun hg => hno hg.2.2.2.2.2.2, rfl, hX⟩⟩
  have c31 : z3 32 1 = D.length := c3.1
  have c32 : ∀ i : Int, 0 ≤ i → i < D.length → z3 33 i = lf D i := c3.2
  simp (disch := first | assumption | omega) only [↓b_hid, bH_some, ↓hid_W, W_some, I3_a, I3_s, I3_m, I3_n, I3_l, I3_lt, I3_le, I3_e, I3_dv, I3_rm, I3_mx, I3_mn, I3_ab, cI, bI_0, bI_1, rZ_b, up_same, up_row, up_col, xr_some, LQ_r, LQ_l, Int.sub_self, Int.add_zero, Int.zero_add, Int.sub_zero, Int.neg_neg, not_true_eq_false, not_false_eq_true, Int.add_sub_cancel, ↓ite_iH, iH_t, iH_f, bH_iH, ↓bH_bind, xr_iH, ↓xr_bind, W_iH, WI_t, WI_f, aR_34, aR_19, sR_19, gR_0_0, pR_0, gI_0, pI_0, iO_0, gR_0_1, gR_0_3, gR_0_4, gR_0_5, gR_0_6, gR_0_7, gR_0_8, gR_0_9, gR_0_10, gR_0_11, iO_T isT_32, iH_pos, iH_neg, WI_pos, WI_neg]
  refine W_bH (W_imp (g_longest (p := p) (z := z3) (l := l) isT_32 (by omega) (by omega) (fun i i0 i1 => by
    rw [c31] at i1
    have := hDg _ (lf_mem (D := D) i0 i1)
    rw [c32 i i0 i1]; omega)) ?_)
  rintro ⟨r1, r2⟩ ⟨hr2, v, hr1, v0, v1, v2⟩
  simp only at hr1 hr2
  subst hr1 hr2
  by_cases h8 : 60000 < v
  · have hno : ¬oOk D := fun h => by
      obtain ⟨i, i0, i1, i2⟩ := v2.mp h8
      rw [c31] at i1
      rw [c32 i i0 i1] at i2
      have := h.2 i i0 i1; omega
    rw [cif_f hno]
    simp (disch := first | assumption | omega) only [↓b_hid, bH_some, ↓hid_W, W_some, I3_a, I3_s, I3_m, I3_n, I3_l, I3_lt, I3_le, I3_e, I3_dv, I3_rm, I3_mx, I3_mn, I3_ab, cI, bI_0, bI_1, rZ_b, up_same, up_row, up_col, xr_some, LQ_r, LQ_l, Int.sub_self, Int.add_zero, Int.zero_add, Int.sub_zero, Int.neg_neg, not_true_eq_false, not_false_eq_true, Int.add_sub_cancel, ↓ite_iH, iH_t, iH_f, bH_iH, ↓bH_bind, xr_iH, ↓xr_bind, W_iH, WI_t, WI_f, iH_pos, iH_neg, WI_pos, WI_neg]
    exact ⟨p, z3, l, rfl, Or.inr ⟨fun hg => hno hg.2.2.2.2.2.2, rfl, hX⟩⟩
  have hyes : oOk D := ⟨c2, fun i i0 i1 => by
    by_cases hlt : lf D i ≤ 60000
    · exact hlt
    · exact absurd (v2.mpr ⟨i, i0, by rw [c31]; exact i1, by rw [c32 i i0 i1]; omega⟩) h8⟩
  rw [cif_t hyes]
  have hS3 : St z3 (p 0) σ := FrX_S hb hV hX hS
  have hH3 : Hs z3 p n h := Hs_X hp h6 (fun k hk => hX k (by omega)) hH
  simp (disch := first | assumption | omega) only [↓b_hid, bH_some, ↓hid_W, W_some, I3_a, I3_s, I3_m, I3_n, I3_l, I3_lt, I3_le, I3_e, I3_dv, I3_rm, I3_mx, I3_mn, I3_ab, cI, bI_0, bI_1, rZ_b, up_same, up_row, up_col, xr_some, LQ_r, LQ_l, Int.sub_self, Int.add_zero, Int.zero_add, Int.sub_zero, Int.neg_neg, not_true_eq_false, not_false_eq_true, Int.add_sub_cancel, ↓ite_iH, iH_t, iH_f, bH_iH, ↓bH_bind, xr_iH, ↓xr_bind, W_iH, WI_t, WI_f, aR_34, aR_19, sR_19, gR_0_0, pR_0, gI_0, pI_0, iO_0, gR_0_1, gR_0_3, gR_0_4, gR_0_5, gR_0_6, gR_0_7, gR_0_8, gR_0_9, gR_0_10, gR_0_11, iO_0, iH_pos, iH_neg, WI_pos, WI_neg]
  refine W_bH (W_imp (c_save hp hV hS3 h0 h6 hH3) ?_)
  rintro _ ⟨p', z4, rfl, d0, d1, d2⟩
  have d31 : z4 32 1 = D.length := by rw [d2 32 (by decide) (by decide)]; exact c31
  have d32 : z4 33 = z3 33 := d2 33 (by decide) (by decide)
  have gC := g_tcopy (p := p') (z := z4) (l := l) (a := ta) (b := 32) TS isT_32 (by omega) (by omega) (by omega) (by omega)
  rw [d31] at gC
  generalize hz5 : cpr (up z4 ta 1 D.length) (32 + 1) (ta + 1) D.length = z5 at gC
  have f5 : z5 ta 1 = D.length := by rw [← hz5, cpr_row (by omega), up_same]
  have g5 : gI (M p' z5 l) 10 ta 1 = some (I3 D.length) := by rw [← f5]; exact gI_T TS 1
  simp (disch := first | assumption | omega) only [↓b_hid, bH_some, ↓hid_W, W_some, I3_a, I3_s, I3_m, I3_n, I3_l, I3_lt, I3_le, I3_e, I3_dv, I3_rm, I3_mx, I3_mn, I3_ab, cI, bI_0, bI_1, rZ_b, up_same, up_row, up_col, xr_some, LQ_r, LQ_l, Int.sub_self, Int.add_zero, Int.zero_add, Int.sub_zero, Int.neg_neg, not_true_eq_false, not_false_eq_true, Int.add_sub_cancel, ↓ite_iH, iH_t, iH_f, bH_iH, ↓bH_bind, xr_iH, ↓xr_bind, W_iH, WI_t, WI_f, aR_34, aR_19, sR_19, gR_0_0, pR_0, gI_0, pI_0, iO_0, gR_0_1, gR_0_3, gR_0_4, gR_0_5, gR_0_6, gR_0_7, gR_0_8, gR_0_9, gR_0_10, gR_0_11, iO_T TS, gC, g5]
  have hrow : ∀ k, k ≠ ta → k ≠ ta + 1 → z5 k = z4 k := fun k k0 k1 => by rw [← hz5, cpr_row k1, up_row k0]
  have hX4 := CX_0 hX d1
  refine ⟨p', z5, l, rfl, Or.inl ⟨⟨h1, h2, h3, h4, h5, h7, hyes⟩, CX_mod ⟨h0, h6⟩ hX4 (fun k hk _ => hrow k (by omega) (by omega)) ?_⟩⟩
  have hgo := Gd_ov (o := o) hV hs3 ht3 h4 (by rw [hD]; exact hyes)
  rw [hD] at hgo
  have hST := d1.2.1
  rw [d0] at hST ⊢
  refine St_t hs3 hgo.1 hV hST (fun k k0 k1 => hrow k (by omega) (by omega)) ?_
  rw [htA]
  refine ⟨f5, fun i i0 i1 => ?_⟩
  have i1 : i < D.length := i1
  rw [← hz5, cpr_in rfl i0 i1, up_row (by omega), d32]
  exact c32 i i0 i1
end
section
variable {p : Nat → Nat} {z l : Nat → Int → Int}
end
theorem x_overlay {s : Int} (hs : -2147483648 ≤ s ∧ s < 2147483648) {t : Int} (ht : -2147483648 ≤ t ∧ t < 2147483648) {o : Int} (ho : -2147483648 ≤ o ∧ o < 2147483648) : CC (f_X11_overlay 0 (I3 s) (I3 t) (I3 o)) (fun σ => A_ov σ s t o) (fun σ => G_ov σ s t o) (fun σ => tσ σ s.toNat (ovX (ovD σ s.toNat t.toNat o))) := by
  intro p z l σ n h hp hV hS h0 h6 hH
  exact c_over hs ht ho hp hV hS h0 h6 hH
