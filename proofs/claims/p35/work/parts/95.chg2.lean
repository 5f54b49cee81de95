/-! Calls that change a train: clear(), append(). -/
/-- a train of the row is x -/
def tσ (σ : Int → Int) (s : Nat) (x : Dn) : Int → Int := fun j => if j = 83 + s then x.1 else if 86 + 200 * (s : Int) ≤ j ∧ j < 86 + 200 * s + x.1 then x.2 (j - (86 + 200 * s)) else σ j
theorem tσ_n (σ : Int → Int) (s : Nat) (x : Dn) : tσ σ s x (83 + s) = x.1 := by unfold tσ; rw [if_pos rfl]
theorem tσ_d {σ : Int → Int} {s : Nat} {x : Dn} {i : Int} (h0 : 0 ≤ i) (h1 : i < x.1) (hs : s < 3) : tσ σ s x (86 + 200 * s + i) = x.2 i := by
  unfold tσ; rw [if_neg (by omega), if_pos (by omega), show 86 + 200 * (s : Int) + i - (86 + 200 * s) = i by omega]
theorem tσ_o {σ : Int → Int} {s : Nat} {x : Dn} {j : Int} (h : j ≠ 83 + s) (h' : ¬(86 + 200 * (s : Int) ≤ j ∧ j < 86 + 200 * s + x.1)) : tσ σ s x j = σ j := by
  unfold tσ; rw [if_neg h, if_neg h']
theorem V_t {σ : Int → Int} {s : Nat} {x : Dn} (hs : s < 3) (hx : Gd x) (hV : V σ) : V (tσ σ s x) := by
  obtain ⟨v0, v1, v2, v3, v58, vp, vb, vt⟩ := hV
  have hx1 := hx.1
  have O : ∀ j : Int, j < 83 → tσ σ s x j = σ j := fun j hj => tσ_o (by omega) (by omega)
  unfold V
  rw [O 0 (by decide), O 1 (by decide), O 2 (by decide), O 3 (by decide), O 58 (by decide)]
  refine ⟨v0, v1, v2, v3, v58, fun q hq => PV_c (fun j j0 j1 => (O _ (by omega)).symm) (vp q hq), fun k k0 k1 => ?_, fun t ht => ?_⟩
  · rw [O (59 + 2 * k) (by omega), O (60 + 2 * k) (by omega)]; exact vb k k0 k1
  · by_cases hts : t = s
    · subst hts
      rw [tσ_n]
      refine ⟨hx1, fun i i0 i1 => ?_⟩
      rw [tσ_d i0 i1 hs]; exact hx.2 i i0 i1
    · rw [tσ_o (by omega) (by omega)]
      refine ⟨(vt t ht).1, fun i i0 i1 => ?_⟩
      have := (vt t ht).1
      rw [tσ_o (by omega) (by omega)]; exact (vt t ht).2 i i0 i1
theorem St_t {z z' : Nat → Int → Int} {b : Nat} {σ : Int → Int} {s : Nat} {x : Dn} (hs : s < 3) (hx : 0 ≤ x.1 ∧ x.1 ≤ 200) (hV : V σ) (hS : St z b σ) (hF : ∀ k, k ≠ b + 12 + 2 * s → k ≠ b + 12 + 2 * s + 1 → z' k = z k) (hT : Trx z' (b + 12 + 2 * s) x) : St z' b (tσ σ s x) := by
  obtain ⟨⟨s0, s1, s2⟩, sT, st⟩ := hS
  have O : ∀ j : Int, j < 83 → tσ σ s x j = σ j := fun j hj => tσ_o (by omega) (by omega)
  have hb : z' b = z b := hF b (by omega) (by omega)
  refine ⟨⟨by rw [hb, O 0 (by decide)]; exact s0, by rw [hb, O 1 (by decide)]; exact s1, by rw [hb, O 2 (by decide)]; exact s2⟩, ?_, fun t ht => ?_⟩
  · exact Tb_o (fun j _ j1 => O j j1) hV.2.2.2.1 hV.2.2.2.2.1 (Tb_congr (fun k k0 k1 => hF k (by omega) (by omega)) hV.2.2.2.1 sT)
  · by_cases hts : t = s
    · subst hts
      rw [tσ_n]
      refine ⟨hT.1, fun i i0 i1 => ?_⟩
      rw [hT.2 i i0 i1]
      exact (tσ_d i0 i1 hs).symm
    · have hv := (hV.2.2.2.2.2.2.2 t ht).1
      have h1 := Tr_congr (hF (b + 12 + 2 * t) (by omega) (by omega)) (hF (b + 12 + 2 * t + 1) (by omega) (by omega)) (st t ht)
      rw [tσ_o (by omega) (by omega)]
      refine ⟨h1.1, fun i i0 i1 => ?_⟩
      rw [h1.2 i i0 i1]
      exact (tσ_o (by omega) (by omega)).symm
theorem x_clear {s : Int} (hs : -2147483648 ≤ s ∧ s < 2147483648) : CC (f_X11_clear 0 (I3 s)) (fun σ => if 0 ≤ s ∧ s ≤ 2 then σ (83 + s) else -1) (fun _ => 0 ≤ s ∧ s ≤ 2) (fun σ => tσ σ s.toNat (0, fun _ => 0)) := by
  intro p z l σ n h hp hV hS h0 h6 hH
  dsimp only
  unfold f_X11_clear
  by_cases h1 : 0 ≤ s ∧ s ≤ 2
  · have hss : s = ((s.toNat : Nat) : Int) := by omega
    simp only [if_pos h1]
    simp (disch := first | assumption | omega) only [↓b_hid, bH_some, ↓hid_W, W_some, I3_a, I3_s, I3_m, I3_n, I3_l, I3_lt, I3_le, I3_e, I3_dv, I3_rm, I3_mx, I3_mn, I3_ab, cI, bI_0, bI_1, rZ_b, up_same, up_row, up_col, xr_some, LQ_r, LQ_l, Int.sub_self, Int.add_zero, Int.zero_add, Int.sub_zero, Int.neg_neg, not_true_eq_false, not_false_eq_true, Int.add_sub_cancel, ↓ite_iH, iH_t, iH_f, bH_iH, ↓bH_bind, xr_iH, ↓xr_bind, W_iH, WI_t, WI_f, aR_34, aR_19, sR_19, gR_0_0, pR_0, gI_0, pI_0, iO_0, gR_0_1, gR_0_3, gR_0_4, gR_0_5, gR_0_6, gR_0_7, gR_0_8, gR_0_9, gR_0_10, gR_0_11, g_isSlot, bI_t, iO_0, iH_pos, iH_neg, WI_pos, WI_neg]
    refine W_bH (W_imp (c_save hp hV hS h0 h6 hH) ?_)
    rintro _ ⟨p', z', rfl, a0, a1, a2⟩
    have hb := a1.1.1 0 (by omega)
    have hT := isT_B hb (s := s.toNat) (by omega)
    have e := (a1.2.1.2.2 s.toNat (by omega)).1
    rw [← hss] at e
    simp (disch := first | assumption | omega) only [↓b_hid, bH_some, ↓hid_W, W_some, I3_a, I3_s, I3_m, I3_n, I3_l, I3_lt, I3_le, I3_e, I3_dv, I3_rm, I3_mx, I3_mn, I3_ab, cI, bI_0, bI_1, rZ_b, up_same, up_row, up_col, xr_some, LQ_r, LQ_l, Int.sub_self, Int.add_zero, Int.zero_add, Int.sub_zero, Int.neg_neg, not_true_eq_false, not_false_eq_true, Int.add_sub_cancel, ↓ite_iH, iH_t, iH_f, bH_iH, ↓bH_bind, xr_iH, ↓xr_bind, W_iH, WI_t, WI_f, aR_34, aR_19, sR_19, gR_0_0, pR_0, gI_0, pI_0, iO_0, gR_0_1, gR_0_3, gR_0_4, gR_0_5, gR_0_6, gR_0_7, gR_0_8, gR_0_9, gR_0_10, gR_0_11, gI_B, pI_B, iO_B, gR_B0, gR_B1, aR_B, g_trAt, gI_T, pI_T, e]
    refine ⟨p', _, l, rfl, Or.inl ⟨h1, CX_mod ⟨h0, h6⟩ a1 (fun k hk _ => up_row (by omega) _ _ _) (St_t (s := s.toNat) (by omega) (by decide) hV a1.2.1 (fun k k0 k1 => up_row k0 _ _ _) ⟨up_same _ _ _ _, fun i i0 i1 => ?_⟩)⟩⟩
    simp only at i1; omega
  · simp only [if_neg h1]
    simp (disch := first | assumption | omega) only [↓b_hid, bH_some, ↓hid_W, W_some, I3_a, I3_s, I3_m, I3_n, I3_l, I3_lt, I3_le, I3_e, I3_dv, I3_rm, I3_mx, I3_mn, I3_ab, cI, bI_0, bI_1, rZ_b, up_same, up_row, up_col, xr_some, LQ_r, LQ_l, Int.sub_self, Int.add_zero, Int.zero_add, Int.sub_zero, Int.neg_neg, not_true_eq_false, not_false_eq_true, Int.add_sub_cancel, ↓ite_iH, iH_t, iH_f, bH_iH, ↓bH_bind, xr_iH, ↓xr_bind, W_iH, WI_t, WI_f, g_isSlot, bI_f, iH_pos, iH_neg, WI_pos, WI_neg]
    exact ⟨p, z, l, rfl, Or.inr ⟨h1, rfl, FrX_r z⟩⟩
theorem x_append {s : Int} (hs : -2147483648 ≤ s ∧ s < 2147483648) {v : Int} (hv : -2147483648 ≤ v ∧ v < 2147483648) : CC (f_X11_append 0 (I3 s) (I3 v)) (fun σ => if 0 ≤ s ∧ s ≤ 2 then (if 1 ≤ v ∧ v ≤ 60000 then (if σ (83 + s) < 200 then σ (83 + s) + 1 else -3) else -1) else -1) (fun σ => (0 ≤ s ∧ s ≤ 2) ∧ (1 ≤ v ∧ v ≤ 60000) ∧ σ (83 + s) < 200) (fun σ => tσ σ s.toNat (fput v (σ (83 + s), dσ σ s.toNat))) := by
  intro p z l σ n h hp hV hS h0 h6 hH
  dsimp only
  unfold f_X11_append
  by_cases h1 : 0 ≤ s ∧ s ≤ 2
  case neg =>
    simp only [if_neg h1]
    simp (disch := first | assumption | omega) only [↓b_hid, bH_some, ↓hid_W, W_some, I3_a, I3_s, I3_m, I3_n, I3_l, I3_lt, I3_le, I3_e, I3_dv, I3_rm, I3_mx, I3_mn, I3_ab, cI, bI_0, bI_1, rZ_b, up_same, up_row, up_col, xr_some, LQ_r, LQ_l, Int.sub_self, Int.add_zero, Int.zero_add, Int.sub_zero, Int.neg_neg, not_true_eq_false, not_false_eq_true, Int.add_sub_cancel, ↓ite_iH, iH_t, iH_f, bH_iH, ↓bH_bind, xr_iH, ↓xr_bind, W_iH, WI_t, WI_f, g_isSlot, bI_f, iH_pos, iH_neg, WI_pos, WI_neg]
    exact ⟨p, z, l, rfl, Or.inr ⟨fun hg => h1 hg.1, rfl, FrX_r z⟩⟩
  simp only [if_pos h1]
  by_cases h3 : 1 ≤ v ∧ v ≤ 60000
  case neg =>
    simp only [if_neg h3]
    simp (disch := first | assumption | omega) only [↓b_hid, bH_some, ↓hid_W, W_some, I3_a, I3_s, I3_m, I3_n, I3_l, I3_lt, I3_le, I3_e, I3_dv, I3_rm, I3_mx, I3_mn, I3_ab, cI, bI_0, bI_1, rZ_b, up_same, up_row, up_col, xr_some, LQ_r, LQ_l, Int.sub_self, Int.add_zero, Int.zero_add, Int.sub_zero, Int.neg_neg, not_true_eq_false, not_false_eq_true, Int.add_sub_cancel, ↓ite_iH, iH_t, iH_f, bH_iH, ↓bH_bind, xr_iH, ↓xr_bind, W_iH, WI_t, WI_f, g_isSlot, bI_t, g_inRange, bI_f, iH_pos, iH_neg, WI_pos, WI_neg]
    exact ⟨p, z, l, rfl, Or.inr ⟨fun hg => h3 hg.2.1, rfl, FrX_r z⟩⟩
  simp only [if_pos h3]
  have hss : s = ((s.toNat : Nat) : Int) := by omega
  have hb := hp.1 0 (by omega)
  have hT := isT_B hb (s := s.toNat) (by omega)
  have e := (hS.2.2 s.toNat (by omega)).1
  have hvs := (σ_tr hV (s := s.toNat) (by omega)).1
  rw [← hss] at e hvs
  by_cases h4 : σ (83 + s) < 200
  · simp only [if_pos h4]
    simp (disch := first | assumption | omega) only [↓b_hid, bH_some, ↓hid_W, W_some, I3_a, I3_s, I3_m, I3_n, I3_l, I3_lt, I3_le, I3_e, I3_dv, I3_rm, I3_mx, I3_mn, I3_ab, cI, bI_0, bI_1, rZ_b, up_same, up_row, up_col, xr_some, LQ_r, LQ_l, Int.sub_self, Int.add_zero, Int.zero_add, Int.sub_zero, Int.neg_neg, not_true_eq_false, not_false_eq_true, Int.add_sub_cancel, ↓ite_iH, iH_t, iH_f, bH_iH, ↓bH_bind, xr_iH, ↓xr_bind, W_iH, WI_t, WI_f, aR_34, aR_19, sR_19, gR_0_0, pR_0, gI_0, pI_0, iO_0, gR_0_1, gR_0_3, gR_0_4, gR_0_5, gR_0_6, gR_0_7, gR_0_8, gR_0_9, gR_0_10, gR_0_11, gI_B, pI_B, iO_B, gR_B0, gR_B1, aR_B, g_isSlot, bI_t, g_inRange, g_trAt, gI_T, e, iO_0, iH_pos, iH_neg, WI_pos, WI_neg]
    refine W_bH (W_imp (c_save hp hV hS h0 h6 hH) ?_)
    rintro _ ⟨p', z', rfl, a0, a1, a2⟩
    have hb' := a1.1.1 0 (by omega)
    have st' := a1.2.1.2.2 s.toNat (by omega)
    rw [a0] at st'
    have hX : Trx z' (p 0 + 12 + 2 * s.toNat) (σ (83 + s), dσ σ s.toNat) := by
      rw [← hss] at st'
      exact ⟨st'.1, fun i i0 i1 => by rw [st'.2 i i0 i1]; unfold dσ; rw [← hss]⟩
    simp (disch := first | assumption | omega) only [↓b_hid, bH_some, ↓hid_W, W_some, I3_a, I3_s, I3_m, I3_n, I3_l, I3_lt, I3_le, I3_e, I3_dv, I3_rm, I3_mx, I3_mn, I3_ab, cI, bI_0, bI_1, rZ_b, up_same, up_row, up_col, xr_some, LQ_r, LQ_l, Int.sub_self, Int.add_zero, Int.zero_add, Int.sub_zero, Int.neg_neg, not_true_eq_false, not_false_eq_true, Int.add_sub_cancel, ↓ite_iH, iH_t, iH_f, bH_iH, ↓bH_bind, xr_iH, ↓xr_bind, W_iH, WI_t, WI_f, iO_T]
    refine W_bH (W_imp (w_put (v := v) hT hX hvs.1 h4) ?_)
    rintro _ ⟨z2, rfl, c1, c2⟩
    have e2 : z2 (p 0 + 12 + 2 * s.toNat) 1 = σ (83 + s) + 1 := c1.1
    simp (disch := first | assumption | omega) only [↓b_hid, bH_some, ↓hid_W, W_some, I3_a, I3_s, I3_m, I3_n, I3_l, I3_lt, I3_le, I3_e, I3_dv, I3_rm, I3_mx, I3_mn, I3_ab, cI, bI_0, bI_1, rZ_b, up_same, up_row, up_col, xr_some, LQ_r, LQ_l, Int.sub_self, Int.add_zero, Int.zero_add, Int.sub_zero, Int.neg_neg, not_true_eq_false, not_false_eq_true, Int.add_sub_cancel, ↓ite_iH, iH_t, iH_f, bH_iH, ↓bH_bind, xr_iH, ↓xr_bind, W_iH, WI_t, WI_f, gI_T, e2]
    rw [← a0] at c1 c2
    exact ⟨p', z2, l, rfl, Or.inl ⟨⟨h1, h3, h4⟩, CX_mod ⟨h0, h6⟩ a1 (fun k hk _ => c2 k (by omega) (by omega)) (St_t (by omega) (by unfold fput; simp only; omega) hV a1.2.1 c2 c1)⟩⟩
  · simp only [if_neg h4]
    simp (disch := first | assumption | omega) only [↓b_hid, bH_some, ↓hid_W, W_some, I3_a, I3_s, I3_m, I3_n, I3_l, I3_lt, I3_le, I3_e, I3_dv, I3_rm, I3_mx, I3_mn, I3_ab, cI, bI_0, bI_1, rZ_b, up_same, up_row, up_col, xr_some, LQ_r, LQ_l, Int.sub_self, Int.add_zero, Int.zero_add, Int.sub_zero, Int.neg_neg, not_true_eq_false, not_false_eq_true, Int.add_sub_cancel, ↓ite_iH, iH_t, iH_f, bH_iH, ↓bH_bind, xr_iH, ↓xr_bind, W_iH, WI_t, WI_f, aR_34, aR_19, sR_19, gR_0_0, pR_0, gI_0, pI_0, iO_0, gR_0_1, gR_0_3, gR_0_4, gR_0_5, gR_0_6, gR_0_7, gR_0_8, gR_0_9, gR_0_10, gR_0_11, gI_B, pI_B, iO_B, gR_B0, gR_B1, aR_B, g_isSlot, bI_t, g_inRange, g_trAt, gI_T, e, iH_pos, iH_neg, WI_pos, WI_neg]
    exact ⟨p, z, l, rfl, Or.inr ⟨fun hg => h4 hg.2.2, rfl, FrX_r z⟩⟩
