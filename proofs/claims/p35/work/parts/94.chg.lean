/-! Calls that change: saving on both sides; setGap(), setHold(), setTolerance(). -/
theorem uσ_s (σ : Int → Int) (i v : Int) : uσ σ i v i = v := by unfold uσ; rw [if_pos rfl]
theorem uσ_o {i j : Int} (h : j ≠ i) (σ : Int → Int) (v : Int) : uσ σ i v j = σ j := by unfold uσ; rw [if_neg h]
section
variable {p : Nat → Nat} {z l : Nat → Int → Int}
theorem c_save {σ : Int → Int} {n : Int} {h : Int → Int → Int} (hp : PB p) (hV : V σ) (hS : St z (p 0) σ) (h0 : 0 ≤ n) (h6 : n ≤ 6) (hH : Hs z p n h) : WP (f_X11_saveState 0 (M p z l)) (fun μ => ∃ p' z', μ = M p' z' l ∧ p' 0 = p 0 ∧ CX p z n h σ σ p' z' ∧ ∀ k, 18 < k → (k < 57 ∨ 165 ≤ k) → z' k = z k) := by
  refine W_imp (g_save hp h0 h6 hV hS hH) ?_
  rintro _ ⟨p', z', rfl, a1, a2, a3, a4, a5⟩
  exact ⟨p', z', rfl, a2, ⟨a1, by rw [a2]; exact a3, a4, fun k hk => a5 k (by omega) (by omega), a5 20 (by omega) (by omega), a5 21 (by omega) (by omega)⟩, a5⟩
theorem CX_mod {p' : Nat → Nat} {z' z'' : Nat → Int → Int} {σ σ' : Int → Int} {n : Int} {h : Int → Int → Int} (hn : 0 ≤ n ∧ n ≤ 6) (hX : CX p z n h σ σ p' z') (hF : ∀ k, (k < p' 0 ∨ p' 0 + 18 ≤ k) → (k ≤ 21 ∨ 57 ≤ k ∧ k < 165 ∨ 189 ≤ k) → z'' k = z' k) (hS : St z'' (p' 0) σ') : CX p z n h σ σ' p' z'' := by
  obtain ⟨a1, a2, a3, a4, a5, a6⟩ := hX
  have hb := a1.1 0 (by omega)
  have hr := isB_r hb
  have h20 : p' 0 = 1 ∨ 57 ≤ p' 0 := by omega
  have hN := hsN_r hn
  refine ⟨a1, hS, ⟨?_, fun j hj => ?_⟩, fun k hk => (hF k (by omega) (by omega)).trans (a4 k hk), (hF 20 (by omega) (by omega)).trans a5, (hF 21 (by omega) (by omega)).trans a6⟩
  · rw [hF 0 (by omega) (by omega)]; exact a3.1
  · obtain ⟨b1, b2⟩ := a3.2 j hj
    have hbj := a1.1 (j + 1) (by omega)
    have hsep := isB_sep hbj hb (a1.2 (j + 1) 0 (by omega) (by omega) (by omega))
    exact ⟨b1, St_congr b1 (fun k k0 k1 => hF k (by omega) (by have := isB_f hbj k0 k1; omega)) b2⟩
end
theorem Tb_o {z : Nat → Int → Int} {t : Nat} {σ σ' : Int → Int} (h : ∀ j : Int, 3 ≤ j → j < 83 → σ' j = σ j) (h3 : 0 ≤ σ 3 ∧ σ 3 ≤ 6) (h58 : 0 ≤ σ 58 ∧ σ 58 ≤ 12) (hT : Tb z t σ) : Tb z t σ' := by
  obtain ⟨t1, t2, t3, t4⟩ := hT
  unfold Tb
  rw [h 3 (by decide) (by decide), h 58 (by decide) (by decide)]
  refine ⟨t1, t2, fun q hq f f0 f1 => ?_, fun k k0 k1 => ?_⟩
  · rw [h (4 + 9 * q + f) (by omega) (by omega)]; exact t3 q hq f f0 f1
  · rw [h (59 + 2 * k) (by omega) (by omega), h (60 + 2 * k) (by omega) (by omega)]; exact t4 k k0 k1
theorem V_u {σ : Int → Int} {i v : Int} (hi : i = 0 ∧ 1000 ≤ v ∧ v ≤ 60000 ∨ i = 1 ∧ 1000 ≤ v ∧ v ≤ 60000 ∨ i = 2 ∧ 0 ≤ v ∧ v ≤ 40) (hV : V σ) : V (uσ σ i v) := by
  obtain ⟨v0, v1, v2, v3, v58, vp, vb, vt⟩ := hV
  have O : ∀ j, j ≠ i → uσ σ i v j = σ j := fun j hj => uσ_o hj σ v
  have o0 : i ≠ 0 → uσ σ i v 0 = σ 0 := fun h => O 0 (by omega)
  have o1 : i ≠ 1 → uσ σ i v 1 = σ 1 := fun h => O 1 (by omega)
  have o2 : i ≠ 2 → uσ σ i v 2 = σ 2 := fun h => O 2 (by omega)
  have os := uσ_s σ i v
  have big : uσ σ i v 3 = σ 3 ∧ uσ σ i v 58 = σ 58 := ⟨O 3 (by omega), O 58 (by omega)⟩
  unfold V
  rw [big.1, big.2]
  refine ⟨?_, ?_, ?_, v3, v58, fun q hq => PV_c (fun j j0 j1 => (O _ (by omega)).symm) (vp q hq), fun k k0 k1 => ?_, fun s hs => ?_⟩
  · rcases hi with ⟨rfl, h⟩ | ⟨rfl, h⟩ | ⟨rfl, h⟩
    · rw [os]; exact h
    · rw [o0 (by decide)]; exact v0
    · rw [o0 (by decide)]; exact v0
  · rcases hi with ⟨rfl, h⟩ | ⟨rfl, h⟩ | ⟨rfl, h⟩
    · rw [o1 (by decide)]; exact v1
    · rw [os]; exact h
    · rw [o1 (by decide)]; exact v1
  · rcases hi with ⟨rfl, h⟩ | ⟨rfl, h⟩ | ⟨rfl, h⟩
    · rw [o2 (by decide)]; exact v2
    · rw [o2 (by decide)]; exact v2
    · rw [os]; exact h
  · rw [O (59 + 2 * k) (by omega), O (60 + 2 * k) (by omega)]; exact vb k k0 k1
  · rw [O (83 + s) (by omega)]
    refine ⟨(vt s hs).1, fun j j0 j1 => ?_⟩
    rw [O (86 + 200 * s + j) (by omega)]; exact (vt s hs).2 j j0 j1
theorem St_u {z : Nat → Int → Int} {b : Nat} {σ : Int → Int} {i v : Int} (hi : i = 0 ∨ i = 1 ∨ i = 2) (hV : V σ) (hS : St z b σ) : St (up z b (i + 2) v) b (uσ σ i v) := by
  obtain ⟨⟨s0, s1, s2⟩, sT, st⟩ := hS
  have O : ∀ j, j ≠ i → uσ σ i v j = σ j := fun j hj => uσ_o hj σ v
  have hT : Tb (up z b (i + 2) v) (b + 1) σ := Tb_congr (fun k k0 k1 => up_row (by omega) _ _ _) hV.2.2.2.1 sT
  refine ⟨?_, Tb_o (fun j j0 j1 => O j (by omega)) hV.2.2.2.1 hV.2.2.2.2.1 hT, fun s hs => ?_⟩
  · rcases hi with rfl | rfl | rfl
    · rw [show (0 : Int) + 2 = 2 from rfl]
      exact ⟨by rw [up_same, uσ_s], by rw [up_col (by decide), O 1 (by decide)]; exact s1, by rw [up_col (by decide), O 2 (by decide)]; exact s2⟩
    · rw [show (1 : Int) + 2 = 3 from rfl]
      exact ⟨by rw [up_col (by decide), O 0 (by decide)]; exact s0, by rw [up_same, uσ_s], by rw [up_col (by decide), O 2 (by decide)]; exact s2⟩
    · rw [show (2 : Int) + 2 = 4 from rfl]
      exact ⟨by rw [up_col (by decide), O 0 (by decide)]; exact s0, by rw [up_col (by decide), O 1 (by decide)]; exact s1, by rw [up_same, uσ_s]⟩
  · obtain ⟨a, c⟩ := st s hs
    unfold Tr
    rw [up_row (by omega), up_row (by omega), O (83 + s) (by omega)]
    refine ⟨a, fun j j0 j1 => ?_⟩
    rw [c j j0 j1]
    exact (O (86 + 200 * s + j) (by omega)).symm
section
variable {p : Nat → Nat} {z l : Nat → Int → Int}
end
theorem x_setGap {v : Int} (hv : -2147483648 ≤ v ∧ v < 2147483648) : CC (f_X11_setGap 0 (I3 v)) (fun σ => if 1000 ≤ v ∧ v ≤ 60000 then σ 0 else -1) (fun _ => 1000 ≤ v ∧ v ≤ 60000) (fun σ => uσ σ 0 v) := by
  intro p z l σ n h hp hV hS h0 h6 hH
  dsimp only
  unfold f_X11_setGap
  by_cases h1 : 1000 ≤ v ∧ v ≤ 60000
  · simp only [if_pos h1]
    simp (disch := first | assumption | omega) only [↓b_hid, bH_some, ↓hid_W, W_some, I3_a, I3_s, I3_m, I3_n, I3_l, I3_lt, I3_le, I3_e, I3_dv, I3_rm, I3_mx, I3_mn, I3_ab, cI, bI_0, bI_1, rZ_b, up_same, up_row, up_col, xr_some, LQ_r, LQ_l, Int.sub_self, Int.add_zero, Int.zero_add, Int.sub_zero, Int.neg_neg, not_true_eq_false, not_false_eq_true, Int.add_sub_cancel, ↓ite_iH, iH_t, iH_f, bH_iH, ↓bH_bind, xr_iH, ↓xr_bind, W_iH, WI_t, WI_f, aR_34, aR_19, sR_19, gR_0_0, pR_0, gI_0, pI_0, iO_0, gR_0_1, gR_0_3, gR_0_4, gR_0_5, gR_0_6, gR_0_7, gR_0_8, gR_0_9, gR_0_10, gR_0_11, g_inRange, bI_t, iO_0, iH_pos, iH_neg, WI_pos, WI_neg]
    refine W_bH (W_imp (c_save hp hV hS h0 h6 hH) ?_)
    rintro _ ⟨p', z', rfl, a0, a1, a2⟩
    have hb := a1.1.1 0 (by omega)
    have e : z' (p' 0) 2 = σ 0 := a1.2.1.1.1
    simp (disch := first | assumption | omega) only [↓b_hid, bH_some, ↓hid_W, W_some, I3_a, I3_s, I3_m, I3_n, I3_l, I3_lt, I3_le, I3_e, I3_dv, I3_rm, I3_mx, I3_mn, I3_ab, cI, bI_0, bI_1, rZ_b, up_same, up_row, up_col, xr_some, LQ_r, LQ_l, Int.sub_self, Int.add_zero, Int.zero_add, Int.sub_zero, Int.neg_neg, not_true_eq_false, not_false_eq_true, Int.add_sub_cancel, ↓ite_iH, iH_t, iH_f, bH_iH, ↓bH_bind, xr_iH, ↓xr_bind, W_iH, WI_t, WI_f, aR_34, aR_19, sR_19, gR_0_0, pR_0, gI_0, pI_0, iO_0, gR_0_1, gR_0_3, gR_0_4, gR_0_5, gR_0_6, gR_0_7, gR_0_8, gR_0_9, gR_0_10, gR_0_11, gI_B, pI_B, iO_B, gR_B0, gR_B1, aR_B, e]
    exact ⟨p', _, l, rfl, Or.inl ⟨h1, CX_mod ⟨h0, h6⟩ a1 (fun k hk _ => up_row (by omega) _ _ _) (St_u (i := 0) (Or.inl rfl) hV a1.2.1)⟩⟩
  · simp only [if_neg h1]
    simp (disch := first | assumption | omega) only [↓b_hid, bH_some, ↓hid_W, W_some, I3_a, I3_s, I3_m, I3_n, I3_l, I3_lt, I3_le, I3_e, I3_dv, I3_rm, I3_mx, I3_mn, I3_ab, cI, bI_0, bI_1, rZ_b, up_same, up_row, up_col, xr_some, LQ_r, LQ_l, Int.sub_self, Int.add_zero, Int.zero_add, Int.sub_zero, Int.neg_neg, not_true_eq_false, not_false_eq_true, Int.add_sub_cancel, ↓ite_iH, iH_t, iH_f, bH_iH, ↓bH_bind, xr_iH, ↓xr_bind, W_iH, WI_t, WI_f, g_inRange, bI_f, iH_pos, iH_neg, WI_pos, WI_neg]
    exact ⟨p, z, l, rfl, Or.inr ⟨h1, rfl, FrX_r z⟩⟩
theorem x_setHold {v : Int} (hv : -2147483648 ≤ v ∧ v < 2147483648) : CC (f_X11_setHold 0 (I3 v)) (fun σ => if 1000 ≤ v ∧ v ≤ 60000 then σ 1 else -1) (fun _ => 1000 ≤ v ∧ v ≤ 60000) (fun σ => uσ σ 1 v) := by
  intro p z l σ n h hp hV hS h0 h6 hH
  dsimp only
  unfold f_X11_setHold
  by_cases h1 : 1000 ≤ v ∧ v ≤ 60000
  · simp only [if_pos h1]
    simp (disch := first | assumption | omega) only [↓b_hid, bH_some, ↓hid_W, W_some, I3_a, I3_s, I3_m, I3_n, I3_l, I3_lt, I3_le, I3_e, I3_dv, I3_rm, I3_mx, I3_mn, I3_ab, cI, bI_0, bI_1, rZ_b, up_same, up_row, up_col, xr_some, LQ_r, LQ_l, Int.sub_self, Int.add_zero, Int.zero_add, Int.sub_zero, Int.neg_neg, not_true_eq_false, not_false_eq_true, Int.add_sub_cancel, ↓ite_iH, iH_t, iH_f, bH_iH, ↓bH_bind, xr_iH, ↓xr_bind, W_iH, WI_t, WI_f, aR_34, aR_19, sR_19, gR_0_0, pR_0, gI_0, pI_0, iO_0, gR_0_1, gR_0_3, gR_0_4, gR_0_5, gR_0_6, gR_0_7, gR_0_8, gR_0_9, gR_0_10, gR_0_11, g_inRange, bI_t, iO_0, iH_pos, iH_neg, WI_pos, WI_neg]
    refine W_bH (W_imp (c_save hp hV hS h0 h6 hH) ?_)
    rintro _ ⟨p', z', rfl, a0, a1, a2⟩
    have hb := a1.1.1 0 (by omega)
    have e : z' (p' 0) 3 = σ 1 := a1.2.1.1.2.1
    simp (disch := first | assumption | omega) only [↓b_hid, bH_some, ↓hid_W, W_some, I3_a, I3_s, I3_m, I3_n, I3_l, I3_lt, I3_le, I3_e, I3_dv, I3_rm, I3_mx, I3_mn, I3_ab, cI, bI_0, bI_1, rZ_b, up_same, up_row, up_col, xr_some, LQ_r, LQ_l, Int.sub_self, Int.add_zero, Int.zero_add, Int.sub_zero, Int.neg_neg, not_true_eq_false, not_false_eq_true, Int.add_sub_cancel, ↓ite_iH, iH_t, iH_f, bH_iH, ↓bH_bind, xr_iH, ↓xr_bind, W_iH, WI_t, WI_f, aR_34, aR_19, sR_19, gR_0_0, pR_0, gI_0, pI_0, iO_0, gR_0_1, gR_0_3, gR_0_4, gR_0_5, gR_0_6, gR_0_7, gR_0_8, gR_0_9, gR_0_10, gR_0_11, gI_B, pI_B, iO_B, gR_B0, gR_B1, aR_B, e]
    exact ⟨p', _, l, rfl, Or.inl ⟨h1, CX_mod ⟨h0, h6⟩ a1 (fun k hk _ => up_row (by omega) _ _ _) (St_u (i := 1) (Or.inr (Or.inl rfl)) hV a1.2.1)⟩⟩
  · simp only [if_neg h1]
    simp (disch := first | assumption | omega) only [↓b_hid, bH_some, ↓hid_W, W_some, I3_a, I3_s, I3_m, I3_n, I3_l, I3_lt, I3_le, I3_e, I3_dv, I3_rm, I3_mx, I3_mn, I3_ab, cI, bI_0, bI_1, rZ_b, up_same, up_row, up_col, xr_some, LQ_r, LQ_l, Int.sub_self, Int.add_zero, Int.zero_add, Int.sub_zero, Int.neg_neg, not_true_eq_false, not_false_eq_true, Int.add_sub_cancel, ↓ite_iH, iH_t, iH_f, bH_iH, ↓bH_bind, xr_iH, ↓xr_bind, W_iH, WI_t, WI_f, g_inRange, bI_f, iH_pos, iH_neg, WI_pos, WI_neg]
    exact ⟨p, z, l, rfl, Or.inr ⟨h1, rfl, FrX_r z⟩⟩
theorem x_setTolerance {v : Int} (hv : -2147483648 ≤ v ∧ v < 2147483648) : CC (f_X11_setTolerance 0 (I3 v)) (fun σ => if 0 ≤ v ∧ v ≤ 40 then σ 2 else -1) (fun _ => 0 ≤ v ∧ v ≤ 40) (fun σ => uσ σ 2 v) := by
  intro p z l σ n h hp hV hS h0 h6 hH
  dsimp only
  unfold f_X11_setTolerance
  by_cases h1 : 0 ≤ v ∧ v ≤ 40
  · simp only [if_pos h1]
    simp (disch := first | assumption | omega) only [↓b_hid, bH_some, ↓hid_W, W_some, I3_a, I3_s, I3_m, I3_n, I3_l, I3_lt, I3_le, I3_e, I3_dv, I3_rm, I3_mx, I3_mn, I3_ab, cI, bI_0, bI_1, rZ_b, up_same, up_row, up_col, xr_some, LQ_r, LQ_l, Int.sub_self, Int.add_zero, Int.zero_add, Int.sub_zero, Int.neg_neg, not_true_eq_false, not_false_eq_true, Int.add_sub_cancel, ↓ite_iH, iH_t, iH_f, bH_iH, ↓bH_bind, xr_iH, ↓xr_bind, W_iH, WI_t, WI_f, aR_34, aR_19, sR_19, gR_0_0, pR_0, gI_0, pI_0, iO_0, gR_0_1, gR_0_3, gR_0_4, gR_0_5, gR_0_6, gR_0_7, gR_0_8, gR_0_9, gR_0_10, gR_0_11, g_inRange, bI_t, iO_0, iH_pos, iH_neg, WI_pos, WI_neg]
    refine W_bH (W_imp (c_save hp hV hS h0 h6 hH) ?_)
    rintro _ ⟨p', z', rfl, a0, a1, a2⟩
    have hb := a1.1.1 0 (by omega)
    have e : z' (p' 0) 4 = σ 2 := a1.2.1.1.2.2
    simp (disch := first | assumption | omega) only [↓b_hid, bH_some, ↓hid_W, W_some, I3_a, I3_s, I3_m, I3_n, I3_l, I3_lt, I3_le, I3_e, I3_dv, I3_rm, I3_mx, I3_mn, I3_ab, cI, bI_0, bI_1, rZ_b, up_same, up_row, up_col, xr_some, LQ_r, LQ_l, Int.sub_self, Int.add_zero, Int.zero_add, Int.sub_zero, Int.neg_neg, not_true_eq_false, not_false_eq_true, Int.add_sub_cancel, ↓ite_iH, iH_t, iH_f, bH_iH, ↓bH_bind, xr_iH, ↓xr_bind, W_iH, WI_t, WI_f, aR_34, aR_19, sR_19, gR_0_0, pR_0, gI_0, pI_0, iO_0, gR_0_1, gR_0_3, gR_0_4, gR_0_5, gR_0_6, gR_0_7, gR_0_8, gR_0_9, gR_0_10, gR_0_11, gI_B, pI_B, iO_B, gR_B0, gR_B1, aR_B, e]
    exact ⟨p', _, l, rfl, Or.inl ⟨h1, CX_mod ⟨h0, h6⟩ a1 (fun k hk _ => up_row (by omega) _ _ _) (St_u (i := 2) (Or.inr (Or.inr rfl)) hV a1.2.1)⟩⟩
  · simp only [if_neg h1]
    simp (disch := first | assumption | omega) only [↓b_hid, bH_some, ↓hid_W, W_some, I3_a, I3_s, I3_m, I3_n, I3_l, I3_lt, I3_le, I3_e, I3_dv, I3_rm, I3_mx, I3_mn, I3_ab, cI, bI_0, bI_1, rZ_b, up_same, up_row, up_col, xr_some, LQ_r, LQ_l, Int.sub_self, Int.add_zero, Int.zero_add, Int.sub_zero, Int.neg_neg, not_true_eq_false, not_false_eq_true, Int.add_sub_cancel, ↓ite_iH, iH_t, iH_f, bH_iH, ↓bH_bind, xr_iH, ↓xr_bind, W_iH, WI_t, WI_f, g_inRange, bI_f, iH_pos, iH_neg, WI_pos, WI_neg]
    exact ⟨p, z, l, rfl, Or.inr ⟨h1, rfl, FrX_r z⟩⟩
