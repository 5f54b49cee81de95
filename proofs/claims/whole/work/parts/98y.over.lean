/-! overlay(): both sides. -/
def xσ (σ : Int → Int) (s : Nat) : Dn := (σ (83 + s), dσ σ s)
theorem Gd_xσ {σ : Int → Int} {s : Nat} (hV : V σ) (hs : s < 3) : Gd (xσ σ s) := σ_tr hV hs
def ovD (σ : Int → Int) (s t : Nat) (o : Int) : List Int := colD (xσ σ s) (xσ σ t) o
def oOk (D : List Int) : Prop := D.length ≤ 200 ∧ ∀ i : Int, 0 ≤ i → i < D.length → lf D i ≤ 60000
def ovX (D : List Int) : Dn := (D.length, lf D)
noncomputable def A_ov (σ : Int → Int) (s t o : Int) : Int := if 0 ≤ s ∧ s ≤ 2 then (if 0 ≤ t ∧ t ≤ 2 then (if s = t then -1 else if 0 ≤ o ∧ o ≤ 60000 then (if σ (83 + s) % 2 = 1 then (if σ (83 + t) % 2 = 1 then cif (oOk (ovD σ s.toNat t.toNat o)) (ovD σ s.toNat t.toNat o).length (-3) else -2) else -2) else -1) else -1) else -1
def G_ov (σ : Int → Int) (s t o : Int) : Prop := (0 ≤ s ∧ s ≤ 2) ∧ (0 ≤ t ∧ t ≤ 2) ∧ ¬s = t ∧ (0 ≤ o ∧ o ≤ 60000) ∧ σ (83 + s) % 2 = 1 ∧ σ (83 + t) % 2 = 1 ∧ oOk (ovD σ s.toNat t.toNat o)
theorem Gd_ov {σ : Int → Int} {s t : Nat} {o : Int} (hV : V σ) (hs : s < 3) (ht : t < 3) (ho : 0 ≤ o ∧ o ≤ 60000) (hO : oOk (ovD σ s t o)) : Gd (ovX (ovD σ s t o)) := by
  have hg := colD_g (Gd_xσ hV hs) (Gd_xσ hV ht) ho
  refine ⟨⟨by unfold ovX; simp only; omega, by have := hO.1; unfold ovX; simp only; omega⟩, fun i i0 i1 => ?_⟩
  have h1 := hg _ (lf_mem (D := ovD σ s t o) i0 i1)
  exact ⟨h1.1, hO.2 i i0 i1⟩
section
variable {p : Nat → Nat} {z l : Nat → Int → Int}
set_option maxHeartbeats 4000000 in
theorem c_over {s t o n : Int} {σ : Int → Int} {h : Int → Int → Int} (hs : -2147483648 ≤ s ∧ s < 2147483648) (ht : -2147483648 ≤ t ∧ t < 2147483648) (ho : -2147483648 ≤ o ∧ o < 2147483648) (hp : PB p) (hV : V σ) (hS : St z (p 0) σ) (h0 : 0 ≤ n) (h6 : n ≤ 6) (hH : Hs z p n h) : WP (f_X11_overlay 0 (I3 s) (I3 t) (I3 o) (M p z l)) (fun r => ∃ p' z' l', r = (I3 (A_ov σ s t o), M p' z' l') ∧ ((G_ov σ s t o ∧ CX p z n h σ (tσ σ s.toNat (ovX (ovD σ s.toNat t.toNat o))) p' z') ∨ (¬G_ov σ s t o ∧ p' = p ∧ FrX z z'))) := by
  have hb := hp.1 0 (by omega)
  have hr := isB_r hb
  unfold f_X11_overlay A_ov G_ov
  by_cases h1 : 0 ≤ s ∧ s ≤ 2
  case neg =>
    rw [if_neg h1]
    simp (disch := first | assumption | omega) only [↓b_hid, bH_some, ↓hid_W, W_some, I3_a, I3_s, I3_m, I3_n, I3_l, I3_lt, I3_le, I3_e, I3_dv, I3_rm, I3_mx, I3_mn, I3_ab, cI, bI_0, bI_1, rZ_b, up_same, up_row, up_col, xr_some, LQ_r, LQ_l, Int.sub_self, Int.add_zero, Int.zero_add, Int.sub_zero, Int.neg_neg, not_true_eq_false, not_false_eq_true, Int.add_sub_cancel, ↓ite_iH, iH_t, iH_f, bH_iH, ↓bH_bind, xr_iH, ↓xr_bind, W_iH, WI_t, WI_f, g_isSlot, bI_f, iH_pos, iH_neg, WI_pos, WI_neg]
    exact ⟨p, z, l, rfl, Or.inr ⟨fun hg => h1 hg.1, rfl, FrX_r z⟩⟩
  rw [if_pos h1]
  by_cases h2 : 0 ≤ t ∧ t ≤ 2
  case neg =>
    rw [if_neg h2]
    simp (disch := first | assumption | omega) only [↓b_hid, bH_some, ↓hid_W, W_some, I3_a, I3_s, I3_m, I3_n, I3_l, I3_lt, I3_le, I3_e, I3_dv, I3_rm, I3_mx, I3_mn, I3_ab, cI, bI_0, bI_1, rZ_b, up_same, up_row, up_col, xr_some, LQ_r, LQ_l, Int.sub_self, Int.add_zero, Int.zero_add, Int.sub_zero, Int.neg_neg, not_true_eq_false, not_false_eq_true, Int.add_sub_cancel, ↓ite_iH, iH_t, iH_f, bH_iH, ↓bH_bind, xr_iH, ↓xr_bind, W_iH, WI_t, WI_f, g_isSlot, bI_t, bI_f, iH_pos, iH_neg, WI_pos, WI_neg]
    exact ⟨p, z, l, rfl, Or.inr ⟨fun hg => h2 hg.2.1, rfl, FrX_r z⟩⟩
  rw [if_pos h2]
  by_cases h3 : s = t
  · rw [if_pos h3]
    simp (disch := first | assumption | omega) only [↓b_hid, bH_some, ↓hid_W, W_some, I3_a, I3_s, I3_m, I3_n, I3_l, I3_lt, I3_le, I3_e, I3_dv, I3_rm, I3_mx, I3_mn, I3_ab, cI, bI_0, bI_1, rZ_b, up_same, up_row, up_col, xr_some, LQ_r, LQ_l, Int.sub_self, Int.add_zero, Int.zero_add, Int.sub_zero, Int.neg_neg, not_true_eq_false, not_false_eq_true, Int.add_sub_cancel, ↓ite_iH, iH_t, iH_f, bH_iH, ↓bH_bind, xr_iH, ↓xr_bind, W_iH, WI_t, WI_f, g_isSlot, bI_t, iH_pos, iH_neg, WI_pos, WI_neg]
    exact ⟨p, z, l, rfl, Or.inr ⟨fun hg => hg.2.2.1 h3, rfl, FrX_r z⟩⟩
  rw [if_neg h3]
  by_cases h4 : 0 ≤ o ∧ o ≤ 60000
  case neg =>
    rw [if_neg h4]
    simp (disch := first | assumption | omega) only [↓b_hid, bH_some, ↓hid_W, W_some, I3_a, I3_s, I3_m, I3_n, I3_l, I3_lt, I3_le, I3_e, I3_dv, I3_rm, I3_mx, I3_mn, I3_ab, cI, bI_0, bI_1, rZ_b, up_same, up_row, up_col, xr_some, LQ_r, LQ_l, Int.sub_self, Int.add_zero, Int.zero_add, Int.sub_zero, Int.neg_neg, not_true_eq_false, not_false_eq_true, Int.add_sub_cancel, ↓ite_iH, iH_t, iH_f, bH_iH, ↓bH_bind, xr_iH, ↓xr_bind, W_iH, WI_t, WI_f, g_isSlot, bI_t, g_inRange, bI_f, iH_pos, iH_neg, WI_pos, WI_neg]
    exact ⟨p, z, l, rfl, Or.inr ⟨fun hg => h4 hg.2.2.2.1, rfl, FrX_r z⟩⟩
  rw [if_pos h4]
  obtain ⟨sn, rfl⟩ : ∃ m : Nat, s = m := ⟨s.toNat, by omega⟩
  obtain ⟨tn, rfl⟩ : ∃ m : Nat, t = m := ⟨t.toNat, by omega⟩
  simp only [Int.toNat_natCast]
  have hs3 : sn < 3 := by omega
  have ht3 : tn < 3 := by omega
  have gsa := g_trAt (p := p) (z := z) (l := l) (i := (sn : Int)) hb (by omega) (by omega)
  have gta := g_trAt (p := p) (z := z) (l := l) (i := (tn : Int)) hb (by omega) (by omega)
  rw [Int.toNat_natCast] at gsa gta
  have hve := σ_tr hV hs3
  have hvf := σ_tr hV ht3
  have gv := Gd_xσ hV hs3
  have gw := Gd_xσ hV ht3
  have TS := isT_B hb hs3
  have TT := isT_B hb ht3
  have hX1 : Trx z (p 0 + 12 + 2 * sn) (xσ σ sn) := hS.2.2 sn hs3
  have hX2 : Trx z (p 0 + 12 + 2 * tn) (xσ σ tn) := hS.2.2 tn ht3
  have e1 : z (p 0 + 12 + 2 * sn) 1 = σ (83 + sn) := hX1.1
  have e2 : z (p 0 + 12 + 2 * tn) 1 = σ (83 + tn) := hX2.1
  have w1 := g_ewm (p := p) (z := z) (l := l) TS (by omega) (by omega)
  have w2 := g_ewm (p := p) (z := z) (l := l) TT (by omega) (by omega)
  rw [e1] at w1
  rw [e2] at w2
  have hts : p 0 + 12 + 2 * sn + 1 < 53 ∨ 57 ≤ p 0 + 12 + 2 * sn := by omega
  have hts2 : p 0 + 12 + 2 * tn + 1 < 53 ∨ 57 ≤ p 0 + 12 + 2 * tn := by omega
  have hta32 : p 0 + 12 + 2 * sn ≠ 32 ∧ p 0 + 12 + 2 * sn ≠ 33 ∧ p 0 + 12 + 2 * sn + 1 ≠ 32 ∧ p 0 + 12 + 2 * sn + 1 ≠ 33 := by omega
  have htab : (p 0 ≤ p 0 + 12 + 2 * sn ∧ p 0 + 12 + 2 * sn + 1 < p 0 + 18) := by omega
  generalize htA : p 0 + 12 + 2 * sn = ta at *
  generalize htB : p 0 + 12 + 2 * tn = tb at *
  by_cases h5 : σ (83 + sn) % 2 = 1
  case neg =>
    rw [if_neg h5]
    rw [bI_f h5] at w1
    simp (disch := first | assumption | omega) only [↓b_hid, bH_some, ↓hid_W, W_some, I3_a, I3_s, I3_m, I3_n, I3_l, I3_lt, I3_le, I3_e, I3_dv, I3_rm, I3_mx, I3_mn, I3_ab, cI, bI_0, bI_1, rZ_b, up_same, up_row, up_col, xr_some, LQ_r, LQ_l, Int.sub_self, Int.add_zero, Int.zero_add, Int.sub_zero, Int.neg_neg, not_true_eq_false, not_false_eq_true, Int.add_sub_cancel, ↓ite_iH, iH_t, iH_f, bH_iH, ↓bH_bind, xr_iH, ↓xr_bind, W_iH, WI_t, WI_f, aR_34, aR_19, sR_19, gR_0_0, pR_0, gI_0, pI_0, iO_0, gR_0_1, gR_0_3, gR_0_4, gR_0_5, gR_0_6, gR_0_7, gR_0_8, gR_0_9, gR_0_10, gR_0_11, gI_B, pI_B, iO_B, gR_B0, gR_B1, aR_B, g_isSlot, g_inRange, bI_t, gsa, gta, iO_T TS, w1, iH_pos, iH_neg, WI_pos, WI_neg]
    exact ⟨p, z, l, rfl, Or.inr ⟨fun hg => h5 hg.2.2.2.2.1, rfl, FrX_r z⟩⟩
  rw [if_pos h5]
  rw [bI_t h5] at w1
  by_cases h7 : σ (83 + tn) % 2 = 1
  case neg =>
    rw [if_neg h7]
    rw [bI_f h7] at w2
    simp (disch := first | assumption | omega) only [↓b_hid, bH_some, ↓hid_W, W_some, I3_a, I3_s, I3_m, I3_n, I3_l, I3_lt, I3_le, I3_e, I3_dv, I3_rm, I3_mx, I3_mn, I3_ab, cI, bI_0, bI_1, rZ_b, up_same, up_row, up_col, xr_some, LQ_r, LQ_l, Int.sub_self, Int.add_zero, Int.zero_add, Int.sub_zero, Int.neg_neg, not_true_eq_false, not_false_eq_true, Int.add_sub_cancel, ↓ite_iH, iH_t, iH_f, bH_iH, ↓bH_bind, xr_iH, ↓xr_bind, W_iH, WI_t, WI_f, aR_34, aR_19, sR_19, gR_0_0, pR_0, gI_0, pI_0, iO_0, gR_0_1, gR_0_3, gR_0_4, gR_0_5, gR_0_6, gR_0_7, gR_0_8, gR_0_9, gR_0_10, gR_0_11, gI_B, pI_B, iO_B, gR_B0, gR_B1, aR_B, g_isSlot, g_inRange, bI_t, gsa, gta, iO_T TS, iO_T TT, w1, w2, iH_pos, iH_neg, WI_pos, WI_neg]
    exact ⟨p, z, l, rfl, Or.inr ⟨fun hg => h7 hg.2.2.2.2.2.1, rfl, FrX_r z⟩⟩
  rw [if_pos h7]
  rw [bI_t h7] at w2
  simp (disch := first | assumption | omega) only [↓b_hid, bH_some, ↓hid_W, W_some, I3_a, I3_s, I3_m, I3_n, I3_l, I3_lt, I3_le, I3_e, I3_dv, I3_rm, I3_mx, I3_mn, I3_ab, cI, bI_0, bI_1, rZ_b, up_same, up_row, up_col, xr_some, LQ_r, LQ_l, Int.sub_self, Int.add_zero, Int.zero_add, Int.sub_zero, Int.neg_neg, not_true_eq_false, not_false_eq_true, Int.add_sub_cancel, ↓ite_iH, iH_t, iH_f, bH_iH, ↓bH_bind, xr_iH, ↓xr_bind, W_iH, WI_t, WI_f, aR_34, aR_19, sR_19, gR_0_0, pR_0, gI_0, pI_0, iO_0, gR_0_1, gR_0_3, gR_0_4, gR_0_5, gR_0_6, gR_0_7, gR_0_8, gR_0_9, gR_0_10, gR_0_11, gI_B, pI_B, iO_B, gR_B0, gR_B1, aR_B, gI_52, pI_52, iO_52, gR_52_0, gR_52_1, pZ_52, g_isSlot, g_inRange, bI_t, gsa, gta, iO_T TS, iO_T TT, w1, w2, iH_pos, iH_neg, WI_pos, WI_neg]
  refine W_bH (W_imp (w_lay TS TT hts hts2 hX1 hX2 gv.1 gw.1) ?_)
  rintro _ ⟨z1, rfl, a1, a2, a3⟩
  simp (disch := first | assumption | omega) only [↓b_hid, bH_some, ↓hid_W, W_some, I3_a, I3_s, I3_m, I3_n, I3_l, I3_lt, I3_le, I3_e, I3_dv, I3_rm, I3_mx, I3_mn, I3_ab, cI, bI_0, bI_1, rZ_b, up_same, up_row, up_col, xr_some, LQ_r, LQ_l, Int.sub_self, Int.add_zero, Int.zero_add, Int.sub_zero, Int.neg_neg, not_true_eq_false, not_false_eq_true, Int.add_sub_cancel, ↓ite_iH, iH_t, iH_f, bH_iH, ↓bH_bind, xr_iH, ↓xr_bind, W_iH, WI_t, WI_f, aR_34, aR_19, sR_19, gR_0_0, pR_0, gI_0, pI_0, iO_0, gR_0_1, gR_0_3, gR_0_4, gR_0_5, gR_0_6, gR_0_7, gR_0_8, gR_0_9, gR_0_10, gR_0_11, gI_52, pI_52, iO_52, gR_52_0, gR_52_1, pZ_52]
  refine W_bH (W_imp (w_begin gv gw h4 a1 a2) ?_)
  rintro _ ⟨z2, rfl, b1, b2⟩
  have b2 : Ns z2 (xσ σ sn) (xσ σ tn) o (ovD σ sn tn o) := b2
  have hDg : ∀ v ∈ ovD σ sn tn o, 1 ≤ v ∧ v ≤ 13000000 := colD_g gv gw h4
  simp (disch := first | assumption | omega) only [↓b_hid, bH_some, ↓hid_W, W_some, I3_a, I3_s, I3_m, I3_n, I3_l, I3_lt, I3_le, I3_e, I3_dv, I3_rm, I3_mx, I3_mn, I3_ab, cI, bI_0, bI_1, rZ_b, up_same, up_row, up_col, xr_some, LQ_r, LQ_l, Int.sub_self, Int.add_zero, Int.zero_add, Int.sub_zero, Int.neg_neg, not_true_eq_false, not_false_eq_true, Int.add_sub_cancel, ↓ite_iH, iH_t, iH_f, bH_iH, ↓bH_bind, xr_iH, ↓xr_bind, W_iH, WI_t, WI_f, aR_34, aR_19, sR_19, gR_0_0, pR_0, gI_0, pI_0, iO_0, gR_0_1, gR_0_3, gR_0_4, gR_0_5, gR_0_6, gR_0_7, gR_0_8, gR_0_9, gR_0_10, gR_0_11, gI_52, pI_52, iO_52, gR_52_0, gR_52_1, pZ_52]
  refine W_bH (W_imp (w_writeTo gv gw h4 b2) ?_)
  rintro _ ⟨v, z3, rfl, c1, c2⟩
  have hF3 : ∀ k, k ≠ 32 → k ≠ 33 → (k < 52 ∨ 57 ≤ k) → z3 k = z k := fun k k0 k1 k2 => by rw [c1 k (by omega) k0 k1, b1 k (by omega), a3 k (by omega)]
  have hX : FrX z z3 := fun k hk => hF3 k (by omega) (by omega) (by omega)
  generalize hD : ovD σ sn tn o = D at *
  rcases c2 with ⟨c2, rfl, c3⟩ | ⟨c2, rfl⟩
  case inr =>
    have hno : ¬oOk D := fun h => by have := h.1; omega
    rw [cif_f hno]
    simp (disch := first | assumption | omega) only [↓b_hid, bH_some, ↓hid_W, W_some, I3_a, I3_s, I3_m, I3_n, I3_l, I3_lt, I3_le, I3_e, I3_dv, I3_rm, I3_mx, I3_mn, I3_ab, cI, bI_0, bI_1, rZ_b, up_same, up_row, up_col, xr_some, LQ_r, LQ_l, Int.sub_self, Int.add_zero, Int.zero_add, Int.sub_zero, Int.neg_neg, not_true_eq_false, not_false_eq_true, Int.add_sub_cancel, ↓ite_iH, iH_t, iH_f, bH_iH, ↓bH_bind, xr_iH, ↓xr_bind, W_iH, WI_t, WI_f, iH_pos, iH_neg, WI_pos, WI_neg]
    exact ⟨p, z3, l, rfl, Or.inr ⟨fun hg => hno hg.2.2.2.2.2.2, rfl, hX⟩⟩
  have c31 : z3 32 1 = D.length := c3.1
  have c32 : ∀ i : Int, 0 ≤ i → i < D.length → z3 33 i = lf D i := c3.2
  simp (disch := first | assumption | omega) only [↓b_hid, bH_some, ↓hid_W, W_some, I3_a, I3_s, I3_m, I3_n, I3_l, I3_lt, I3_le, I3_e, I3_dv, I3_rm, I3_mx, I3_mn, I3_ab, cI, bI_0, bI_1, rZ_b, up_same, up_row, up_col, xr_some, LQ_r, LQ_l, Int.sub_self, Int.add_zero, Int.zero_add, Int.sub_zero, Int.neg_neg, not_true_eq_false, not_false_eq_true, Int.add_sub_cancel, ↓ite_iH, iH_t, iH_f, bH_iH, ↓bH_bind, xr_iH, ↓xr_bind, W_iH, WI_t, WI_f, aR_34, aR_19, sR_19, gR_0_0, pR_0, gI_0, pI_0, iO_0, gR_0_1, gR_0_3, gR_0_4, gR_0_5, gR_0_6, gR_0_7, gR_0_8, gR_0_9, gR_0_10, gR_0_11, iO_T isT_32, iH_pos, iH_neg, WI_pos, WI_neg]
  refine W_bH (W_imp (g_longest (p := p) (z := z3) (l := l) isT_32 (by omega) (by omega) (fun i i0 i1 => by
    rw [c31] at i1
    have := hDg _ (lf_mem (D := D) i0 i1)
    rw [c32 i i0 i1]; omega)) ?_)
  rintro ⟨r1, r2⟩ ⟨hr2, v, hr1, v0, v1, v2⟩
  simp only at hr1 hr2
  subst hr1 hr2
  by_cases h8 : 60000 < v
  · have hno : ¬oOk D := fun h => by
      obtain ⟨i, i0, i1, i2⟩ := v2.mp h8
      rw [c31] at i1
      rw [c32 i i0 i1] at i2
      have := h.2 i i0 i1; omega
    rw [cif_f hno]
    simp (disch := first | assumption | omega) only [↓b_hid, bH_some, ↓hid_W, W_some, I3_a, I3_s, I3_m, I3_n, I3_l, I3_lt, I3_le, I3_e, I3_dv, I3_rm, I3_mx, I3_mn, I3_ab, cI, bI_0, bI_1, rZ_b, up_same, up_row, up_col, xr_some, LQ_r, LQ_l, Int.sub_self, Int.add_zero, Int.zero_add, Int.sub_zero, Int.neg_neg, not_true_eq_false, not_false_eq_true, Int.add_sub_cancel, ↓ite_iH, iH_t, iH_f, bH_iH, ↓bH_bind, xr_iH, ↓xr_bind, W_iH, WI_t, WI_f, iH_pos, iH_neg, WI_pos, WI_neg]
    exact ⟨p, z3, l, rfl, Or.inr ⟨fun hg => hno hg.2.2.2.2.2.2, rfl, hX⟩⟩
  have hyes : oOk D := ⟨c2, fun i i0 i1 => by
    by_cases hlt : lf D i ≤ 60000
    · exact hlt
    · exact absurd (v2.mpr ⟨i, i0, by rw [c31]; exact i1, by rw [c32 i i0 i1]; omega⟩) h8⟩
  rw [cif_t hyes]
  have hS3 : St z3 (p 0) σ := FrX_S hb hV hX hS
  have hH3 : Hs z3 p n h := Hs_X hp h6 (fun k hk => hX k (by omega)) hH
  simp (disch := first | assumption | omega) only [↓b_hid, bH_some, ↓hid_W, W_some, I3_a, I3_s, I3_m, I3_n, I3_l, I3_lt, I3_le, I3_e, I3_dv, I3_rm, I3_mx, I3_mn, I3_ab, cI, bI_0, bI_1, rZ_b, up_same, up_row, up_col, xr_some, LQ_r, LQ_l, Int.sub_self, Int.add_zero, Int.zero_add, Int.sub_zero, Int.neg_neg, not_true_eq_false, not_false_eq_true, Int.add_sub_cancel, ↓ite_iH, iH_t, iH_f, bH_iH, ↓bH_bind, xr_iH, ↓xr_bind, W_iH, WI_t, WI_f, aR_34, aR_19, sR_19, gR_0_0, pR_0, gI_0, pI_0, iO_0, gR_0_1, gR_0_3, gR_0_4, gR_0_5, gR_0_6, gR_0_7, gR_0_8, gR_0_9, gR_0_10, gR_0_11, iO_0, iH_pos, iH_neg, WI_pos, WI_neg]
  refine W_bH (W_imp (c_save hp hV hS3 h0 h6 hH3) ?_)
  rintro _ ⟨p', z4, rfl, d0, d1, d2⟩
  have d31 : z4 32 1 = D.length := by rw [d2 32 (by decide) (by decide)]; exact c31
  have d32 : z4 33 = z3 33 := d2 33 (by decide) (by decide)
  have gC := g_tcopy (p := p') (z := z4) (l := l) (a := ta) (b := 32) TS isT_32 (by omega) (by omega) (by omega) (by omega)
  rw [d31] at gC
  generalize hz5 : cpr (up z4 ta 1 D.length) (32 + 1) (ta + 1) D.length = z5 at gC
  have f5 : z5 ta 1 = D.length := by rw [← hz5, cpr_row (by omega), up_same]
  have g5 : gI (M p' z5 l) 10 ta 1 = some (I3 D.length) := by rw [← f5]; exact gI_T TS 1
  simp (disch := first | assumption | omega) only [↓b_hid, bH_some, ↓hid_W, W_some, I3_a, I3_s, I3_m, I3_n, I3_l, I3_lt, I3_le, I3_e, I3_dv, I3_rm, I3_mx, I3_mn, I3_ab, cI, bI_0, bI_1, rZ_b, up_same, up_row, up_col, xr_some, LQ_r, LQ_l, Int.sub_self, Int.add_zero, Int.zero_add, Int.sub_zero, Int.neg_neg, not_true_eq_false, not_false_eq_true, Int.add_sub_cancel, ↓ite_iH, iH_t, iH_f, bH_iH, ↓bH_bind, xr_iH, ↓xr_bind, W_iH, WI_t, WI_f, aR_34, aR_19, sR_19, gR_0_0, pR_0, gI_0, pI_0, iO_0, gR_0_1, gR_0_3, gR_0_4, gR_0_5, gR_0_6, gR_0_7, gR_0_8, gR_0_9, gR_0_10, gR_0_11, iO_T TS, gC, g5]
  have hrow : ∀ k, k ≠ ta → k ≠ ta + 1 → z5 k = z4 k := fun k k0 k1 => by rw [← hz5, cpr_row k1, up_row k0]
  have hX4 := CX_0 hX d1
  refine ⟨p', z5, l, rfl, Or.inl ⟨⟨h1, h2, h3, h4, h5, h7, hyes⟩, CX_mod ⟨h0, h6⟩ hX4 (fun k hk _ => hrow k (by omega) (by omega)) ?_⟩⟩
  have hgo := Gd_ov (o := o) hV hs3 ht3 h4 (by rw [hD]; exact hyes)
  rw [hD] at hgo
  have hST := d1.2.1
  rw [d0] at hST ⊢
  refine St_t hs3 hgo.1 hV hST (fun k k0 k1 => hrow k (by omega) (by omega)) ?_
  rw [htA]
  refine ⟨f5, fun i i0 i1 => ?_⟩
  have i1 : i < D.length := i1
  rw [← hz5, cpr_in rfl i0 i1, up_row (by omega), d32]
  exact c32 i i0 i1
end
section
variable {p : Nat → Nat} {z l : Nat → Int → Int}
set_option maxHeartbeats 4000000 in
theorem m_ov137 {s t : Nat} {o n : Int} {σ : Int → Int} {D : List Int} {z0 : Nat → Int → Int} {v : Int} (hs3 : s < 3) (ht3 : t < 3) (ho : 0 ≤ o ∧ o ≤ 60000) (hD : ovD σ s t o = D) (hV : V σ) (hσ : z 190 = σ) (h2 : z 189 2 = n) (h0 : 0 ≤ n) (h6 : n ≤ 6) (hL : Lo z D) (hlen : D.length ≤ 400) (hDg : ∀ v ∈ D, 1 ≤ v ∧ v ≤ 13000000) (hF : FrQ z0 z) (hv : v = 0 ∧ D.length ≤ 200 ∨ v = 1 ∧ ¬oOk D) : WP (f_X12_overlay_132 189 (I3 s) (I3 v) (M p z l)) (fun r => ∃ z', r = (I3 (cif (oOk D) D.length (-3)), M p z' l) ∧ (oOk D ∧ CMo z0 n σ (tσ σ s (ovX D)) z' ∨ ¬oOk D ∧ FrQ z0 z')) := by
  have hL1 : z 189 14 = D.length := hL.1
  have hL2 : ∀ i : Int, 0 ≤ i → i < D.length → z 195 i = lf D i := hL.2
  unfold f_X12_overlay_132 f_X12_overlay_137
  refine lp_W (fun m st => ∃ (k : Nat) (w : Int), st = (189, I3 s, I3 w, I3 k, M p z l) ∧ k ≤ D.length ∧ m = D.length - k ∧ (w = 0 ∧ D.length ≤ 200 ∧ (∀ i : Int, 0 ≤ i → i < k → lf D i ≤ 60000) ∨ w = 1 ∧ ¬oOk D)) (fun m st hst => ?_) ⟨0, v, rfl, by omega, rfl, by
    rcases hv with ⟨a, b⟩ | ⟨a, b⟩
    · exact Or.inl ⟨a, b, fun i i0 i1 => by omega⟩
    · exact Or.inr ⟨a, b⟩⟩
  obtain ⟨k, w, rfl, hk, rfl, hw⟩ := hst
  unfold f_X12_overlay_137_b
  by_cases hkx : k < D.length
  · have e195 := hL2 k (by omega) (by omega)
    have hg := hDg _ (lf_mem (D := D) (i := k) (by omega) (by omega))
    rcases hw with ⟨rfl, hw1, hw2⟩ | ⟨rfl, hw1⟩
    · by_cases h60 : lf D k ≤ 60000
      · simp (disch := first | assumption | omega) only [↓b_hid, bH_some, ↓hid_W, W_some, I3_a, I3_s, I3_m, I3_n, I3_l, I3_lt, I3_le, I3_e, I3_dv, I3_rm, I3_mx, I3_mn, I3_ab, cI, bI_0, bI_1, rZ_b, up_same, up_row, up_col, xr_some, LQ_r, LQ_l, Int.sub_self, Int.add_zero, Int.zero_add, Int.sub_zero, Int.neg_neg, not_true_eq_false, not_false_eq_true, Int.add_sub_cancel, ↓ite_iH, iH_t, iH_f, bH_iH, ↓bH_bind, xr_iH, ↓xr_bind, W_iH, WI_t, WI_f, gI_189, pI_189, iO_189, gR_189_0, aI_190, sI_190, gR_189_1, aI_191, sI_191, gR_189_3, aI_192, gR_189_10, aI_193, sI_193, gR_189_11, aI_194, sI_194, gR_189_13, aI_195, sI_195, gR_189_15, aI_196, sI_196, gR_189_17, aI_197, sI_197, gR_189_18, aI_198, sI_198, gR_189_19, aI_199, sI_199, gR_189_20, aI_200, sI_200, gR_189_23, aI_201, gR_189_24, aI_202, sI_202, gR_189_25, aI_203, sI_203, gR_189_29, aI_204, sI_204, gR_189_32, aI_205, sI_205, gR_189_35, aI_206, sI_206, pZ_189, gL_189, pL_189, hL1, e195, f_X12_overlay_168, iH_pos, iH_neg, WI_pos, WI_neg]
        refine ⟨_, ?_, k + 1, 0, by rw [Int.natCast_add]; rfl, by omega, rfl, Or.inl ⟨rfl, hw1, fun i i0 i1 => ?_⟩⟩
        · omega
        · by_cases hik : i = k
          · rw [hik]; exact h60
          · exact hw2 i i0 (by omega)
      · simp (disch := first | assumption | omega) only [↓b_hid, bH_some, ↓hid_W, W_some, I3_a, I3_s, I3_m, I3_n, I3_l, I3_lt, I3_le, I3_e, I3_dv, I3_rm, I3_mx, I3_mn, I3_ab, cI, bI_0, bI_1, rZ_b, up_same, up_row, up_col, xr_some, LQ_r, LQ_l, Int.sub_self, Int.add_zero, Int.zero_add, Int.sub_zero, Int.neg_neg, not_true_eq_false, not_false_eq_true, Int.add_sub_cancel, ↓ite_iH, iH_t, iH_f, bH_iH, ↓bH_bind, xr_iH, ↓xr_bind, W_iH, WI_t, WI_f, gI_189, pI_189, iO_189, gR_189_0, aI_190, sI_190, gR_189_1, aI_191, sI_191, gR_189_3, aI_192, gR_189_10, aI_193, sI_193, gR_189_11, aI_194, sI_194, gR_189_13, aI_195, sI_195, gR_189_15, aI_196, sI_196, gR_189_17, aI_197, sI_197, gR_189_18, aI_198, sI_198, gR_189_19, aI_199, sI_199, gR_189_20, aI_200, sI_200, gR_189_23, aI_201, gR_189_24, aI_202, sI_202, gR_189_25, aI_203, sI_203, gR_189_29, aI_204, sI_204, gR_189_32, aI_205, sI_205, gR_189_35, aI_206, sI_206, pZ_189, gL_189, pL_189, hL1, e195, f_X12_overlay_163, f_X12_overlay_168, iH_pos, iH_neg, WI_pos, WI_neg]
        refine ⟨_, ?_, k + 1, 1, by rw [Int.natCast_add]; rfl, by omega, rfl, Or.inr ⟨rfl, fun h => h60 (h.2 k (by omega) (by omega))⟩⟩
        omega
    · simp (disch := first | assumption | omega) only [↓b_hid, bH_some, ↓hid_W, W_some, I3_a, I3_s, I3_m, I3_n, I3_l, I3_lt, I3_le, I3_e, I3_dv, I3_rm, I3_mx, I3_mn, I3_ab, cI, bI_0, bI_1, rZ_b, up_same, up_row, up_col, xr_some, LQ_r, LQ_l, Int.sub_self, Int.add_zero, Int.zero_add, Int.sub_zero, Int.neg_neg, not_true_eq_false, not_false_eq_true, Int.add_sub_cancel, ↓ite_iH, iH_t, iH_f, bH_iH, ↓bH_bind, xr_iH, ↓xr_bind, W_iH, WI_t, WI_f, gI_189, pI_189, iO_189, gR_189_0, aI_190, sI_190, gR_189_1, aI_191, sI_191, gR_189_3, aI_192, gR_189_10, aI_193, sI_193, gR_189_11, aI_194, sI_194, gR_189_13, aI_195, sI_195, gR_189_15, aI_196, sI_196, gR_189_17, aI_197, sI_197, gR_189_18, aI_198, sI_198, gR_189_19, aI_199, sI_199, gR_189_20, aI_200, sI_200, gR_189_23, aI_201, gR_189_24, aI_202, sI_202, gR_189_25, aI_203, sI_203, gR_189_29, aI_204, sI_204, gR_189_32, aI_205, sI_205, gR_189_35, aI_206, sI_206, pZ_189, gL_189, pL_189, hL1, f_X12_overlay_163, f_X12_overlay_168, iH_pos, iH_neg, WI_pos, WI_neg]
      refine ⟨_, ?_, k + 1, 1, by rw [Int.natCast_add]; rfl, by omega, rfl, Or.inr ⟨rfl, hw1⟩⟩
      omega
  · have hkx' : k = D.length := by omega
    rcases hw with ⟨rfl, hw1, hw2⟩ | ⟨rfl, hw1⟩
    case inr =>
      rw [cif_f hw1]
      simp (disch := first | assumption | omega) only [↓b_hid, bH_some, ↓hid_W, W_some, I3_a, I3_s, I3_m, I3_n, I3_l, I3_lt, I3_le, I3_e, I3_dv, I3_rm, I3_mx, I3_mn, I3_ab, cI, bI_0, bI_1, rZ_b, up_same, up_row, up_col, xr_some, LQ_r, LQ_l, Int.sub_self, Int.add_zero, Int.zero_add, Int.sub_zero, Int.neg_neg, not_true_eq_false, not_false_eq_true, Int.add_sub_cancel, ↓ite_iH, iH_t, iH_f, bH_iH, ↓bH_bind, xr_iH, ↓xr_bind, W_iH, WI_t, WI_f, gI_189, pI_189, iO_189, gR_189_0, aI_190, sI_190, gR_189_1, aI_191, sI_191, gR_189_3, aI_192, gR_189_10, aI_193, sI_193, gR_189_11, aI_194, sI_194, gR_189_13, aI_195, sI_195, gR_189_15, aI_196, sI_196, gR_189_17, aI_197, sI_197, gR_189_18, aI_198, sI_198, gR_189_19, aI_199, sI_199, gR_189_20, aI_200, sI_200, gR_189_23, aI_201, gR_189_24, aI_202, sI_202, gR_189_25, aI_203, sI_203, gR_189_29, aI_204, sI_204, gR_189_32, aI_205, sI_205, gR_189_35, aI_206, sI_206, pZ_189, gL_189, pL_189, hL1, f_X12_overlay_176, iH_pos, iH_neg, WI_pos, WI_neg]
      exact ⟨z, rfl, Or.inr ⟨hw1, hF⟩⟩
    have hyes : oOk D := ⟨hw1, fun i i0 i1 => hw2 i i0 (by omega)⟩
    rw [cif_t hyes]
    simp (disch := first | assumption | omega) only [↓b_hid, bH_some, ↓hid_W, W_some, I3_a, I3_s, I3_m, I3_n, I3_l, I3_lt, I3_le, I3_e, I3_dv, I3_rm, I3_mx, I3_mn, I3_ab, cI, bI_0, bI_1, rZ_b, up_same, up_row, up_col, xr_some, LQ_r, LQ_l, Int.sub_self, Int.add_zero, Int.zero_add, Int.sub_zero, Int.neg_neg, not_true_eq_false, not_false_eq_true, Int.add_sub_cancel, ↓ite_iH, iH_t, iH_f, bH_iH, ↓bH_bind, xr_iH, ↓xr_bind, W_iH, WI_t, WI_f, gI_189, pI_189, iO_189, gR_189_0, aI_190, sI_190, gR_189_1, aI_191, sI_191, gR_189_3, aI_192, gR_189_10, aI_193, sI_193, gR_189_11, aI_194, sI_194, gR_189_13, aI_195, sI_195, gR_189_15, aI_196, sI_196, gR_189_17, aI_197, sI_197, gR_189_18, aI_198, sI_198, gR_189_19, aI_199, sI_199, gR_189_20, aI_200, sI_200, gR_189_23, aI_201, gR_189_24, aI_202, sI_202, gR_189_25, aI_203, sI_203, gR_189_29, aI_204, sI_204, gR_189_32, aI_205, sI_205, gR_189_35, aI_206, sI_206, pZ_189, gL_189, pL_189, hL1, f_X12_overlay_176, iH_pos, iH_neg, WI_pos, WI_neg]
    refine W_xr ?_
    simp only [LQ_r]
    refine W_bH (W_imp (m_noteC hσ hV h2 h0 h6) ?_)
    rintro _ ⟨z1, rfl, a1, a2, a3, a4⟩
    have g14 : z1 189 14 = D.length := by rw [a4 14 (by decide)]; exact hL1
    have g195 : z1 195 = z 195 := a3 195 (by decide) (by decide)
    simp (disch := first | assumption | omega) only [↓b_hid, bH_some, ↓hid_W, W_some, I3_a, I3_s, I3_m, I3_n, I3_l, I3_lt, I3_le, I3_e, I3_dv, I3_rm, I3_mx, I3_mn, I3_ab, cI, bI_0, bI_1, rZ_b, up_same, up_row, up_col, xr_some, LQ_r, LQ_l, Int.sub_self, Int.add_zero, Int.zero_add, Int.sub_zero, Int.neg_neg, not_true_eq_false, not_false_eq_true, Int.add_sub_cancel, ↓ite_iH, iH_t, iH_f, bH_iH, ↓bH_bind, xr_iH, ↓xr_bind, W_iH, WI_t, WI_f, gI_189, pI_189, iO_189, gR_189_0, aI_190, sI_190, gR_189_1, aI_191, sI_191, gR_189_3, aI_192, gR_189_10, aI_193, sI_193, gR_189_11, aI_194, sI_194, gR_189_13, aI_195, sI_195, gR_189_15, aI_196, sI_196, gR_189_17, aI_197, sI_197, gR_189_18, aI_198, sI_198, gR_189_19, aI_199, sI_199, gR_189_20, aI_200, sI_200, gR_189_23, aI_201, gR_189_24, aI_202, sI_202, gR_189_25, aI_203, sI_203, gR_189_29, aI_204, sI_204, gR_189_32, aI_205, sI_205, gR_189_35, aI_206, sI_206, pZ_189, gL_189, pL_189, g14]
    unfold f_X12_overlay_204
    refine lp_W (fun m st => ∃ (k : Nat) (z' : Nat → Int → Int), st = (189, I3 s, I3 k, M p z' l) ∧ k ≤ D.length ∧ m = D.length - k ∧ (∀ c, c ≠ 190 → z' c = z1 c) ∧ ∀ j, z' 190 j = if 86 + 200 * (s : Int) ≤ j ∧ j < 86 + 200 * s + k then lf D (j - (86 + 200 * s)) else if j = 83 + s then D.length else σ j) (fun m st hst => ?_) ⟨0, _, rfl, by omega, rfl, fun c hc => up_row hc _ _ _, fun j => by
      rw [if_neg (by omega)]
      by_cases hj : j = 83 + s
      · rw [hj, up_same, if_pos rfl]
      · rw [up_col hj, if_neg hj, a1]⟩
    obtain ⟨k, z', rfl, hk, rfl, hF', hI⟩ := hst
    have k14 : z' 189 14 = D.length := by rw [hF' 189 (by decide)]; exact g14
    unfold f_X12_overlay_204_b
    by_cases hkx : k < D.length
    · have k195 : z' 195 k = lf D k := by rw [hF' 195 (by decide), g195]; exact hL2 k (by omega) (by omega)
      simp (disch := first | assumption | omega) only [↓b_hid, bH_some, ↓hid_W, W_some, I3_a, I3_s, I3_m, I3_n, I3_l, I3_lt, I3_le, I3_e, I3_dv, I3_rm, I3_mx, I3_mn, I3_ab, cI, bI_0, bI_1, rZ_b, up_same, up_row, up_col, xr_some, LQ_r, LQ_l, Int.sub_self, Int.add_zero, Int.zero_add, Int.sub_zero, Int.neg_neg, not_true_eq_false, not_false_eq_true, Int.add_sub_cancel, ↓ite_iH, iH_t, iH_f, bH_iH, ↓bH_bind, xr_iH, ↓xr_bind, W_iH, WI_t, WI_f, gI_189, pI_189, iO_189, gR_189_0, aI_190, sI_190, gR_189_1, aI_191, sI_191, gR_189_3, aI_192, gR_189_10, aI_193, sI_193, gR_189_11, aI_194, sI_194, gR_189_13, aI_195, sI_195, gR_189_15, aI_196, sI_196, gR_189_17, aI_197, sI_197, gR_189_18, aI_198, sI_198, gR_189_19, aI_199, sI_199, gR_189_20, aI_200, sI_200, gR_189_23, aI_201, gR_189_24, aI_202, sI_202, gR_189_25, aI_203, sI_203, gR_189_29, aI_204, sI_204, gR_189_32, aI_205, sI_205, gR_189_35, aI_206, sI_206, pZ_189, gL_189, pL_189, k14, k195, m_trainAt, iH_pos, iH_neg, WI_pos, WI_neg]
      refine ⟨_, ?_, k + 1, _, by rw [Int.natCast_add]; rfl, by omega, rfl, fun c hc => by rw [up_row hc]; exact hF' c hc, fun j => ?_⟩
      · omega
      · by_cases hj : j = 86 + 200 * s + k
        · rw [hj, up_same, if_pos (by omega), show 86 + 200 * (s : Int) + k - (86 + 200 * s) = k by omega]
        · rw [up_col hj, hI j]
          by_cases hj2 : 86 + 200 * (s : Int) ≤ j ∧ j < 86 + 200 * s + k
          · rw [if_pos hj2, if_pos (by omega)]
          · have r1 : ¬(86 + 200 * (s : Int) ≤ j ∧ j < 86 + 200 * s + ((k + 1 : Nat) : Int)) := by omega
            rw [if_neg hj2, if_neg r1]
    · have hkx' : k = D.length := by omega
      have hgo := Gd_ov (o := o) hV hs3 ht3 ho (by rw [hD]; exact hyes)
      rw [hD] at hgo
      simp (disch := first | assumption | omega) only [↓b_hid, bH_some, ↓hid_W, W_some, I3_a, I3_s, I3_m, I3_n, I3_l, I3_lt, I3_le, I3_e, I3_dv, I3_rm, I3_mx, I3_mn, I3_ab, cI, bI_0, bI_1, rZ_b, up_same, up_row, up_col, xr_some, LQ_r, LQ_l, Int.sub_self, Int.add_zero, Int.zero_add, Int.sub_zero, Int.neg_neg, not_true_eq_false, not_false_eq_true, Int.add_sub_cancel, ↓ite_iH, iH_t, iH_f, bH_iH, ↓bH_bind, xr_iH, ↓xr_bind, W_iH, WI_t, WI_f, gI_189, pI_189, iO_189, gR_189_0, aI_190, sI_190, gR_189_1, aI_191, sI_191, gR_189_3, aI_192, gR_189_10, aI_193, sI_193, gR_189_11, aI_194, sI_194, gR_189_13, aI_195, sI_195, gR_189_15, aI_196, sI_196, gR_189_17, aI_197, sI_197, gR_189_18, aI_198, sI_198, gR_189_19, aI_199, sI_199, gR_189_20, aI_200, sI_200, gR_189_23, aI_201, gR_189_24, aI_202, sI_202, gR_189_25, aI_203, sI_203, gR_189_29, aI_204, sI_204, gR_189_32, aI_205, sI_205, gR_189_35, aI_206, sI_206, pZ_189, gL_189, pL_189, k14, f_X12_overlay_238, iH_pos, iH_neg, WI_pos, WI_neg]
      refine ⟨z', rfl, Or.inl ⟨hyes, CMo_0 hF (CMo_mod a2 hF' (V_t hs3 hgo hV) (fun j _ _ => ?_))⟩⟩
      rw [hI j]
      unfold tσ ovX
      simp only
      by_cases hj : j = 83 + s
      · rw [if_pos hj, if_neg (by omega), if_pos hj]
      · rw [if_neg hj, if_neg hj, hkx']
set_option maxHeartbeats 4000000 in
theorem m_over {s t o n : Int} {σ : Int → Int} (hs : -2147483648 ≤ s ∧ s < 2147483648) (ht : -2147483648 ≤ t ∧ t < 2147483648) (ho : -2147483648 ≤ o ∧ o < 2147483648) (hσ : z 190 = σ) (hV : V σ) (hn : z 189 2 = n) (h0 : 0 ≤ n) (h6 : n ≤ 6) : WP (f_X12_overlay 189 (I3 s) (I3 t) (I3 o) (M p z l)) (fun r => ∃ z' l', r = (I3 (A_ov σ s t o), M p z' l') ∧ ((G_ov σ s t o ∧ CMo z n σ (tσ σ s.toNat (ovX (ovD σ s.toNat t.toNat o))) z') ∨ (¬G_ov σ s t o ∧ FrQ z z'))) := by
  unfold f_X12_overlay A_ov G_ov
  by_cases h1 : 0 ≤ s ∧ s ≤ 2
  case neg =>
    rw [if_neg h1]
    simp (disch := first | assumption | omega) only [↓b_hid, bH_some, ↓hid_W, W_some, I3_a, I3_s, I3_m, I3_n, I3_l, I3_lt, I3_le, I3_e, I3_dv, I3_rm, I3_mx, I3_mn, I3_ab, cI, bI_0, bI_1, rZ_b, up_same, up_row, up_col, xr_some, LQ_r, LQ_l, Int.sub_self, Int.add_zero, Int.zero_add, Int.sub_zero, Int.neg_neg, not_true_eq_false, not_false_eq_true, Int.add_sub_cancel, ↓ite_iH, iH_t, iH_f, bH_iH, ↓bH_bind, xr_iH, ↓xr_bind, W_iH, WI_t, WI_f, m_isSlot, bI_f, iH_pos, iH_neg, WI_pos, WI_neg]
    exact ⟨z, l, rfl, Or.inr ⟨fun hg => h1 hg.1, FrQ_r z⟩⟩
  rw [if_pos h1]
  by_cases h2 : 0 ≤ t ∧ t ≤ 2
  case neg =>
    rw [if_neg h2]
    simp (disch := first | assumption | omega) only [↓b_hid, bH_some, ↓hid_W, W_some, I3_a, I3_s, I3_m, I3_n, I3_l, I3_lt, I3_le, I3_e, I3_dv, I3_rm, I3_mx, I3_mn, I3_ab, cI, bI_0, bI_1, rZ_b, up_same, up_row, up_col, xr_some, LQ_r, LQ_l, Int.sub_self, Int.add_zero, Int.zero_add, Int.sub_zero, Int.neg_neg, not_true_eq_false, not_false_eq_true, Int.add_sub_cancel, ↓ite_iH, iH_t, iH_f, bH_iH, ↓bH_bind, xr_iH, ↓xr_bind, W_iH, WI_t, WI_f, m_isSlot, bI_t, bI_f, iH_pos, iH_neg, WI_pos, WI_neg]
    exact ⟨z, l, rfl, Or.inr ⟨fun hg => h2 hg.2.1, FrQ_r z⟩⟩
  rw [if_pos h2]
  by_cases h3 : s = t
  · rw [if_pos h3]
    simp (disch := first | assumption | omega) only [↓b_hid, bH_some, ↓hid_W, W_some, I3_a, I3_s, I3_m, I3_n, I3_l, I3_lt, I3_le, I3_e, I3_dv, I3_rm, I3_mx, I3_mn, I3_ab, cI, bI_0, bI_1, rZ_b, up_same, up_row, up_col, xr_some, LQ_r, LQ_l, Int.sub_self, Int.add_zero, Int.zero_add, Int.sub_zero, Int.neg_neg, not_true_eq_false, not_false_eq_true, Int.add_sub_cancel, ↓ite_iH, iH_t, iH_f, bH_iH, ↓bH_bind, xr_iH, ↓xr_bind, W_iH, WI_t, WI_f, m_isSlot, bI_t, iH_pos, iH_neg, WI_pos, WI_neg]
    exact ⟨z, l, rfl, Or.inr ⟨fun hg => hg.2.2.1 h3, FrQ_r z⟩⟩
  rw [if_neg h3]
  by_cases h4 : 0 ≤ o ∧ o ≤ 60000
  case neg =>
    rw [if_neg h4]
    simp (disch := first | assumption | omega) only [↓b_hid, bH_some, ↓hid_W, W_some, I3_a, I3_s, I3_m, I3_n, I3_l, I3_lt, I3_le, I3_e, I3_dv, I3_rm, I3_mx, I3_mn, I3_ab, cI, bI_0, bI_1, rZ_b, up_same, up_row, up_col, xr_some, LQ_r, LQ_l, Int.sub_self, Int.add_zero, Int.zero_add, Int.sub_zero, Int.neg_neg, not_true_eq_false, not_false_eq_true, Int.add_sub_cancel, ↓ite_iH, iH_t, iH_f, bH_iH, ↓bH_bind, xr_iH, ↓xr_bind, W_iH, WI_t, WI_f, m_isSlot, bI_t, m_in, bI_f, iH_pos, iH_neg, WI_pos, WI_neg]
    exact ⟨z, l, rfl, Or.inr ⟨fun hg => h4 hg.2.2.2.1, FrQ_r z⟩⟩
  rw [if_pos h4]
  obtain ⟨sn, rfl⟩ : ∃ m : Nat, s = m := ⟨s.toNat, by omega⟩
  obtain ⟨tn, rfl⟩ : ∃ m : Nat, t = m := ⟨t.toNat, by omega⟩
  simp only [Int.toNat_natCast]
  have hs3 : sn < 3 := by omega
  have ht3 : tn < 3 := by omega
  have hve := σ_tr hV hs3
  have hvf := σ_tr hV ht3
  have gv := Gd_xσ hV hs3
  have gw := Gd_xσ hV ht3
  by_cases h5 : σ (83 + sn) % 2 = 1
  case neg =>
    rw [if_neg h5]
    simp (disch := first | assumption | omega) only [↓b_hid, bH_some, ↓hid_W, W_some, I3_a, I3_s, I3_m, I3_n, I3_l, I3_lt, I3_le, I3_e, I3_dv, I3_rm, I3_mx, I3_mn, I3_ab, cI, bI_0, bI_1, rZ_b, up_same, up_row, up_col, xr_some, LQ_r, LQ_l, Int.sub_self, Int.add_zero, Int.zero_add, Int.sub_zero, Int.neg_neg, not_true_eq_false, not_false_eq_true, Int.add_sub_cancel, ↓ite_iH, iH_t, iH_f, bH_iH, ↓bH_bind, xr_iH, ↓xr_bind, W_iH, WI_t, WI_f, gI_189, pI_189, iO_189, gR_189_0, aI_190, sI_190, gR_189_1, aI_191, sI_191, gR_189_3, aI_192, gR_189_10, aI_193, sI_193, gR_189_11, aI_194, sI_194, gR_189_13, aI_195, sI_195, gR_189_15, aI_196, sI_196, gR_189_17, aI_197, sI_197, gR_189_18, aI_198, sI_198, gR_189_19, aI_199, sI_199, gR_189_20, aI_200, sI_200, gR_189_23, aI_201, gR_189_24, aI_202, sI_202, gR_189_25, aI_203, sI_203, gR_189_29, aI_204, sI_204, gR_189_32, aI_205, sI_205, gR_189_35, aI_206, sI_206, pZ_189, gL_189, pL_189, m_isSlot, m_in, bI_t, hσ, iH_pos, iH_neg, WI_pos, WI_neg]
    exact ⟨z, l, rfl, Or.inr ⟨fun hg => h5 hg.2.2.2.2.1, FrQ_r z⟩⟩
  rw [if_pos h5]
  by_cases h7 : σ (83 + tn) % 2 = 1
  case neg =>
    rw [if_neg h7]
    simp (disch := first | assumption | omega) only [↓b_hid, bH_some, ↓hid_W, W_some, I3_a, I3_s, I3_m, I3_n, I3_l, I3_lt, I3_le, I3_e, I3_dv, I3_rm, I3_mx, I3_mn, I3_ab, cI, bI_0, bI_1, rZ_b, up_same, up_row, up_col, xr_some, LQ_r, LQ_l, Int.sub_self, Int.add_zero, Int.zero_add, Int.sub_zero, Int.neg_neg, not_true_eq_false, not_false_eq_true, Int.add_sub_cancel, ↓ite_iH, iH_t, iH_f, bH_iH, ↓bH_bind, xr_iH, ↓xr_bind, W_iH, WI_t, WI_f, gI_189, pI_189, iO_189, gR_189_0, aI_190, sI_190, gR_189_1, aI_191, sI_191, gR_189_3, aI_192, gR_189_10, aI_193, sI_193, gR_189_11, aI_194, sI_194, gR_189_13, aI_195, sI_195, gR_189_15, aI_196, sI_196, gR_189_17, aI_197, sI_197, gR_189_18, aI_198, sI_198, gR_189_19, aI_199, sI_199, gR_189_20, aI_200, sI_200, gR_189_23, aI_201, gR_189_24, aI_202, sI_202, gR_189_25, aI_203, sI_203, gR_189_29, aI_204, sI_204, gR_189_32, aI_205, sI_205, gR_189_35, aI_206, sI_206, pZ_189, gL_189, pL_189, m_isSlot, m_in, bI_t, hσ, iH_pos, iH_neg, WI_pos, WI_neg]
    exact ⟨z, l, rfl, Or.inr ⟨fun hg => h7 hg.2.2.2.2.2.1, FrQ_r z⟩⟩
  rw [if_pos h7]
  have hDg : ∀ v ∈ ovD σ sn tn o, 1 ≤ v ∧ v ≤ 13000000 := colD_g gv gw h4
  have hcl := colD_len (x := xσ σ sn) (y := xσ σ tn) o
  have hlen : (ovD σ sn tn o).length ≤ 400 := by
    have x1 : (xσ σ sn).1 = σ (83 + sn) := rfl
    have y1 : (xσ σ tn).1 = σ (83 + tn) := rfl
    rw [x1, y1, if_pos (by omega), if_pos (by omega)] at hcl
    have hcl : ((ovD σ sn tn o).length : Int) ≤ 2 * ((σ (83 + sn) + 1) / 2 + (σ (83 + tn) + 1) / 2) := hcl
    omega
  simp (disch := first | assumption | omega) only [↓b_hid, bH_some, ↓hid_W, W_some, I3_a, I3_s, I3_m, I3_n, I3_l, I3_lt, I3_le, I3_e, I3_dv, I3_rm, I3_mx, I3_mn, I3_ab, cI, bI_0, bI_1, rZ_b, up_same, up_row, up_col, xr_some, LQ_r, LQ_l, Int.sub_self, Int.add_zero, Int.zero_add, Int.sub_zero, Int.neg_neg, not_true_eq_false, not_false_eq_true, Int.add_sub_cancel, ↓ite_iH, iH_t, iH_f, bH_iH, ↓bH_bind, xr_iH, ↓xr_bind, W_iH, WI_t, WI_f, gI_189, pI_189, iO_189, gR_189_0, aI_190, sI_190, gR_189_1, aI_191, sI_191, gR_189_3, aI_192, gR_189_10, aI_193, sI_193, gR_189_11, aI_194, sI_194, gR_189_13, aI_195, sI_195, gR_189_15, aI_196, sI_196, gR_189_17, aI_197, sI_197, gR_189_18, aI_198, sI_198, gR_189_19, aI_199, sI_199, gR_189_20, aI_200, sI_200, gR_189_23, aI_201, gR_189_24, aI_202, sI_202, gR_189_25, aI_203, sI_203, gR_189_29, aI_204, sI_204, gR_189_32, aI_205, sI_205, gR_189_35, aI_206, sI_206, pZ_189, gL_189, pL_189, m_isSlot, m_in, bI_t, hσ, iH_pos, iH_neg, WI_pos, WI_neg]
  refine W_bH (W_imp (m_looks (s := tn) (by omega) (by omega) (by rw [hσ]; omega) (by rw [hσ]; omega)) ?_)
  rintro _ ⟨z1, rfl, a1, a2, a3⟩
  rw [hσ] at a1
  have e14 : z1 189 14 = σ (83 + tn) := a1.1
  have e195 : ∀ i : Int, 0 ≤ i → i < σ (83 + tn) → z1 195 i = dσ σ tn i := a1.2
  simp (disch := first | assumption | omega) only [↓b_hid, bH_some, ↓hid_W, W_some, I3_a, I3_s, I3_m, I3_n, I3_l, I3_lt, I3_le, I3_e, I3_dv, I3_rm, I3_mx, I3_mn, I3_ab, cI, bI_0, bI_1, rZ_b, up_same, up_row, up_col, xr_some, LQ_r, LQ_l, Int.sub_self, Int.add_zero, Int.zero_add, Int.sub_zero, Int.neg_neg, not_true_eq_false, not_false_eq_true, Int.add_sub_cancel, ↓ite_iH, iH_t, iH_f, bH_iH, ↓bH_bind, xr_iH, ↓xr_bind, W_iH, WI_t, WI_f, gI_189, pI_189, iO_189, gR_189_0, aI_190, sI_190, gR_189_1, aI_191, sI_191, gR_189_3, aI_192, gR_189_10, aI_193, sI_193, gR_189_11, aI_194, sI_194, gR_189_13, aI_195, sI_195, gR_189_15, aI_196, sI_196, gR_189_17, aI_197, sI_197, gR_189_18, aI_198, sI_198, gR_189_19, aI_199, sI_199, gR_189_20, aI_200, sI_200, gR_189_23, aI_201, gR_189_24, aI_202, sI_202, gR_189_25, aI_203, sI_203, gR_189_29, aI_204, sI_204, gR_189_32, aI_205, sI_205, gR_189_35, aI_206, sI_206, pZ_189, gL_189, pL_189, e14]
  unfold f_X12_overlay_78
  refine lp_W (fun m st => ∃ (k : Nat) (z' : Nat → Int → Int), st = (189, I3 sn, I3 o, I3 k, M p z' l) ∧ (k : Int) ≤ σ (83 + tn) ∧ m = (σ (83 + tn)).toNat - k ∧ (∀ c, c ≠ 196 → z' c = up z1 189 16 (σ (83 + tn)) c) ∧ ∀ i : Int, 0 ≤ i → i < (k : Int) → z' 196 i = dσ σ tn i) (fun m st hst => ?_) ⟨0, _, rfl, by omega, rfl, fun _ _ => rfl, fun i i0 i1 => by omega⟩
  obtain ⟨k, z2, rfl, hk, rfl, hF, hI⟩ := hst
  have e189 : z2 189 = up z1 189 16 (σ (83 + tn)) 189 := hF 189 (by decide)
  have e14' : z2 189 14 = σ (83 + tn) := by rw [e189, up_col (by decide)]; exact e14
  unfold f_X12_overlay_78_b
  by_cases hkx : (k : Int) < σ (83 + tn)
  · have k195 : z2 195 k = dσ σ tn k := by rw [hF 195 (by decide), up_row (by decide)]; exact e195 k (by omega) hkx
    simp (disch := first | assumption | omega) only [↓b_hid, bH_some, ↓hid_W, W_some, I3_a, I3_s, I3_m, I3_n, I3_l, I3_lt, I3_le, I3_e, I3_dv, I3_rm, I3_mx, I3_mn, I3_ab, cI, bI_0, bI_1, rZ_b, up_same, up_row, up_col, xr_some, LQ_r, LQ_l, Int.sub_self, Int.add_zero, Int.zero_add, Int.sub_zero, Int.neg_neg, not_true_eq_false, not_false_eq_true, Int.add_sub_cancel, ↓ite_iH, iH_t, iH_f, bH_iH, ↓bH_bind, xr_iH, ↓xr_bind, W_iH, WI_t, WI_f, gI_189, pI_189, iO_189, gR_189_0, aI_190, sI_190, gR_189_1, aI_191, sI_191, gR_189_3, aI_192, gR_189_10, aI_193, sI_193, gR_189_11, aI_194, sI_194, gR_189_13, aI_195, sI_195, gR_189_15, aI_196, sI_196, gR_189_17, aI_197, sI_197, gR_189_18, aI_198, sI_198, gR_189_19, aI_199, sI_199, gR_189_20, aI_200, sI_200, gR_189_23, aI_201, gR_189_24, aI_202, sI_202, gR_189_25, aI_203, sI_203, gR_189_29, aI_204, sI_204, gR_189_32, aI_205, sI_205, gR_189_35, aI_206, sI_206, pZ_189, gL_189, pL_189, e14', k195, iH_pos, iH_neg, WI_pos, WI_neg]
    refine ⟨_, ?_, k + 1, _, by rw [Int.natCast_add]; rfl, by omega, rfl, fun c hc => by rw [up_row hc]; exact hF c hc, fun i i0 i1 => ?_⟩
    · omega
    · by_cases hik : i = k
      · rw [hik, up_same]
      · rw [up_col hik]; exact hI i i0 (by omega)
  · have hkx' : (k : Int) = σ (83 + tn) := by omega
    have hO2 : Od z2 (xσ σ tn) := ⟨by rw [e189, up_same]; rfl, fun i i0 i1 => hI i i0 (by have i1 : i < σ (83 + tn) := i1; omega)⟩
    have hQ2 : FrQ z z2 := FrQ_t ⟨fun c hc => a2 c (by omega) (by omega), a2 190 (by decide) (by decide), a2 191 (by decide) (by decide), a2 192 (by decide) (by decide), fun j hj => a3 j (by omega)⟩ (FrQ_t (FrQ_up (Or.inl ⟨rfl, by decide⟩) _) (FrQ_1 (a := 196) (by decide) hF))
    have hσ2 : z2 190 = σ := hQ2.2.1.trans hσ
    simp (disch := first | assumption | omega) only [↓b_hid, bH_some, ↓hid_W, W_some, I3_a, I3_s, I3_m, I3_n, I3_l, I3_lt, I3_le, I3_e, I3_dv, I3_rm, I3_mx, I3_mn, I3_ab, cI, bI_0, bI_1, rZ_b, up_same, up_row, up_col, xr_some, LQ_r, LQ_l, Int.sub_self, Int.add_zero, Int.zero_add, Int.sub_zero, Int.neg_neg, not_true_eq_false, not_false_eq_true, Int.add_sub_cancel, ↓ite_iH, iH_t, iH_f, bH_iH, ↓bH_bind, xr_iH, ↓xr_bind, W_iH, WI_t, WI_f, gI_189, pI_189, iO_189, gR_189_0, aI_190, sI_190, gR_189_1, aI_191, sI_191, gR_189_3, aI_192, gR_189_10, aI_193, sI_193, gR_189_11, aI_194, sI_194, gR_189_13, aI_195, sI_195, gR_189_15, aI_196, sI_196, gR_189_17, aI_197, sI_197, gR_189_18, aI_198, sI_198, gR_189_19, aI_199, sI_199, gR_189_20, aI_200, sI_200, gR_189_23, aI_201, gR_189_24, aI_202, sI_202, gR_189_25, aI_203, sI_203, gR_189_29, aI_204, sI_204, gR_189_32, aI_205, sI_205, gR_189_35, aI_206, sI_206, pZ_189, gL_189, pL_189, e14', f_X12_overlay_107, iH_pos, iH_neg, WI_pos, WI_neg]
    refine W_xr ?_
    simp only [LQ_r]
    refine W_bH (W_imp (m_looks (s := sn) (by omega) (by omega) (by rw [hσ2]; omega) (by rw [hσ2]; omega)) ?_)
    rintro _ ⟨z3, rfl, b1, b2, b3⟩
    rw [hσ2] at b1
    have b1 : Ld z3 (xσ σ sn).1 (xσ σ sn).2 := b1
    have hO3 : Od z3 (xσ σ tn) := ⟨by rw [b3 16 (by decide)]; exact hO2.1, fun i i0 i1 => by rw [b2 196 (by decide) (by decide)]; exact hO2.2 i i0 i1⟩
    have hQ3 : FrQ z z3 := FrQ_t hQ2 ⟨fun c hc => b2 c (by omega) (by omega), b2 190 (by decide) (by decide), b2 191 (by decide) (by decide), b2 192 (by decide) (by decide), fun j hj => b3 j (by omega)⟩
    simp (disch := first | assumption | omega) only [↓b_hid, bH_some, ↓hid_W, W_some, I3_a, I3_s, I3_m, I3_n, I3_l, I3_lt, I3_le, I3_e, I3_dv, I3_rm, I3_mx, I3_mn, I3_ab, cI, bI_0, bI_1, rZ_b, up_same, up_row, up_col, xr_some, LQ_r, LQ_l, Int.sub_self, Int.add_zero, Int.zero_add, Int.sub_zero, Int.neg_neg, not_true_eq_false, not_false_eq_true, Int.add_sub_cancel, ↓ite_iH, iH_t, iH_f, bH_iH, ↓bH_bind, xr_iH, ↓xr_bind, W_iH, WI_t, WI_f, gI_189, pI_189, iO_189, gR_189_0, aI_190, sI_190, gR_189_1, aI_191, sI_191, gR_189_3, aI_192, gR_189_10, aI_193, sI_193, gR_189_11, aI_194, sI_194, gR_189_13, aI_195, sI_195, gR_189_15, aI_196, sI_196, gR_189_17, aI_197, sI_197, gR_189_18, aI_198, sI_198, gR_189_19, aI_199, sI_199, gR_189_20, aI_200, sI_200, gR_189_23, aI_201, gR_189_24, aI_202, sI_202, gR_189_25, aI_203, sI_203, gR_189_29, aI_204, sI_204, gR_189_32, aI_205, sI_205, gR_189_35, aI_206, sI_206, pZ_189, gL_189, pL_189]
    refine W_bH (W_imp (m_overlays (o := o) (a := ((σ (83 + sn) + 1) / 2).toNat) (b := ((σ (83 + tn) + 1) / 2).toNat) gv gw h4 (show σ (83 + sn) = _ by omega) (show σ (83 + tn) = _ by omega) (by omega) (by omega) b1 hO3) ?_)
    rintro _ ⟨z4, rfl, c1, c2⟩
    have c1 : Lo z4 (ovD σ sn tn o) := c1
    have hQ4 := FrQ_t hQ3 (FrQ_V c2)
    have hσ4 : z4 190 = σ := hQ4.2.1.trans hσ
    have c14 : z4 189 14 = (ovD σ sn tn o).length := c1.1
    have fin := fun v hv => m_ov137 (p := p) (z := z4) (l := l) (t := tn) (n := n) (v := v) (z0 := z) hs3 ht3 h4 rfl hV hσ4 ((hQ4.2.2.2.2 2 (by decide)).trans hn) h0 h6 c1 hlen hDg hQ4 hv
    have fin : ∀ v : Int, (v = 0 ∧ (ovD σ sn tn o).length ≤ 200 ∨ v = 1 ∧ ¬oOk (ovD σ sn tn o)) → WP (f_X12_overlay_132 189 (I3 sn) (I3 v) (M p z4 l)) (fun r => ∃ z' l', r = (I3 (cif (oOk (ovD σ sn tn o)) (ovD σ sn tn o).length (-3)), M p z' l') ∧ (((0 ≤ (sn : Int) ∧ (sn : Int) ≤ 2) ∧ (0 ≤ (tn : Int) ∧ (tn : Int) ≤ 2) ∧ ¬(sn : Int) = tn ∧ (0 ≤ o ∧ o ≤ 60000) ∧ σ (83 + sn) % 2 = 1 ∧ σ (83 + tn) % 2 = 1 ∧ oOk (ovD σ sn tn o)) ∧ CMo z n σ (tσ σ sn (ovX (ovD σ sn tn o))) z' ∨ ¬((0 ≤ (sn : Int) ∧ (sn : Int) ≤ 2) ∧ (0 ≤ (tn : Int) ∧ (tn : Int) ≤ 2) ∧ ¬(sn : Int) = tn ∧ (0 ≤ o ∧ o ≤ 60000) ∧ σ (83 + sn) % 2 = 1 ∧ σ (83 + tn) % 2 = 1 ∧ oOk (ovD σ sn tn o)) ∧ FrQ z z')) := fun v hv => W_imp (fin v hv) (fun r ⟨z', e, d⟩ => ⟨z', l, e, by
      rcases d with ⟨d1, d2⟩ | ⟨d1, d2⟩
      · exact Or.inl ⟨⟨h1, h2, h3, h4, h5, h7, d1⟩, d2⟩
      · exact Or.inr ⟨fun hg => d1 hg.2.2.2.2.2.2, d2⟩⟩)
    by_cases h8 : (ovD σ sn tn o).length ≤ 200
    · have := fin 0 (Or.inl ⟨rfl, h8⟩)
      simp (disch := first | assumption | omega) only [↓b_hid, bH_some, ↓hid_W, W_some, I3_a, I3_s, I3_m, I3_n, I3_l, I3_lt, I3_le, I3_e, I3_dv, I3_rm, I3_mx, I3_mn, I3_ab, cI, bI_0, bI_1, rZ_b, up_same, up_row, up_col, xr_some, LQ_r, LQ_l, Int.sub_self, Int.add_zero, Int.zero_add, Int.sub_zero, Int.neg_neg, not_true_eq_false, not_false_eq_true, Int.add_sub_cancel, ↓ite_iH, iH_t, iH_f, bH_iH, ↓bH_bind, xr_iH, ↓xr_bind, W_iH, WI_t, WI_f, gI_189, pI_189, iO_189, gR_189_0, aI_190, sI_190, gR_189_1, aI_191, sI_191, gR_189_3, aI_192, gR_189_10, aI_193, sI_193, gR_189_11, aI_194, sI_194, gR_189_13, aI_195, sI_195, gR_189_15, aI_196, sI_196, gR_189_17, aI_197, sI_197, gR_189_18, aI_198, sI_198, gR_189_19, aI_199, sI_199, gR_189_20, aI_200, sI_200, gR_189_23, aI_201, gR_189_24, aI_202, sI_202, gR_189_25, aI_203, sI_203, gR_189_29, aI_204, sI_204, gR_189_32, aI_205, sI_205, gR_189_35, aI_206, sI_206, pZ_189, gL_189, pL_189, c14, iH_pos, iH_neg, WI_pos, WI_neg]
      exact this
    · have := fin 1 (Or.inr ⟨rfl, fun h => h8 h.1⟩)
      simp (disch := first | assumption | omega) only [↓b_hid, bH_some, ↓hid_W, W_some, I3_a, I3_s, I3_m, I3_n, I3_l, I3_lt, I3_le, I3_e, I3_dv, I3_rm, I3_mx, I3_mn, I3_ab, cI, bI_0, bI_1, rZ_b, up_same, up_row, up_col, xr_some, LQ_r, LQ_l, Int.sub_self, Int.add_zero, Int.zero_add, Int.sub_zero, Int.neg_neg, not_true_eq_false, not_false_eq_true, Int.add_sub_cancel, ↓ite_iH, iH_t, iH_f, bH_iH, ↓bH_bind, xr_iH, ↓xr_bind, W_iH, WI_t, WI_f, gI_189, pI_189, iO_189, gR_189_0, aI_190, sI_190, gR_189_1, aI_191, sI_191, gR_189_3, aI_192, gR_189_10, aI_193, sI_193, gR_189_11, aI_194, sI_194, gR_189_13, aI_195, sI_195, gR_189_15, aI_196, sI_196, gR_189_17, aI_197, sI_197, gR_189_18, aI_198, sI_198, gR_189_19, aI_199, sI_199, gR_189_20, aI_200, sI_200, gR_189_23, aI_201, gR_189_24, aI_202, sI_202, gR_189_25, aI_203, sI_203, gR_189_29, aI_204, sI_204, gR_189_32, aI_205, sI_205, gR_189_35, aI_206, sI_206, pZ_189, gL_189, pL_189, c14, iH_pos, iH_neg, WI_pos, WI_neg]
      exact this
end
theorem j_overlay (a b c : Int32) : JT (f_X11_overlay 0 a b c) (f_X12_overlay 189 a b c) := by
  obtain ⟨s, hs, rfl⟩ := i3x a
  obtain ⟨t, ht, rfl⟩ := i3x b
  obtain ⟨o, ho, rfl⟩ := i3x c
  exact JT_c (fun σ => A_ov σ s t o) (fun σ => G_ov σ s t o) (fun σ => tσ σ s.toNat (ovX (ovD σ s.toNat t.toNat o))) (fun p z l σ n h hp hV hS h0 h6 hH => c_over hs ht ho hp hV hS h0 h6 hH) (fun p z l σ n hσ hV h2 h0 h6 => m_over hs ht ho hσ hV h2 h0 h6)
