/-! setLengths(): both sides. -/
section
variable {k h s a b c : Int} {μ : MS}
end
/-- the lengths of protocol q -/
def lσ (σ : Int → Int) (q h s a x y : Int) : Int → Int := fun j => if j = 4 + 9 * q + 1 then h else if j = 4 + 9 * q + 2 then s else if j = 4 + 9 * q + 3 then a else if j = 4 + 9 * q + 4 then x else if j = 4 + 9 * q + 5 then y else σ j
theorem lσ_o {σ : Int → Int} {q h s a x y j : Int} (hj : ¬(4 + 9 * q + 1 ≤ j ∧ j ≤ 4 + 9 * q + 5)) : lσ σ q h s a x y j = σ j := by
  unfold lσ; rw [if_neg (by omega), if_neg (by omega), if_neg (by omega), if_neg (by omega), if_neg (by omega)]
theorem lσ_n (σ : Int → Int) (q h s a x y : Int) : lσ σ q h s a x y (4 + 9 * q + 1) = h ∧ lσ σ q h s a x y (4 + 9 * q + 2) = s ∧ lσ σ q h s a x y (4 + 9 * q + 3) = a ∧ lσ σ q h s a x y (4 + 9 * q + 4) = x ∧ lσ σ q h s a x y (4 + 9 * q + 5) = y := by
  refine ⟨?_, ?_, ?_, ?_, ?_⟩ <;> unfold lσ <;> simp (disch := omega) only [if_neg, if_pos, if_true]
theorem V_l {σ : Int → Int} {q : Nat} {h s a x y : Int} (hV : V σ) (hq : (q : Int) < σ 3) (hl : lensOk (σ (4 + 9 * q + 0)) h s a x y) : V (lσ σ q h s a x y) := by
  obtain ⟨v0, v1, v2, v3, v58, vp, vb, vt⟩ := hV
  obtain ⟨n1, n2, n3, n4, n5⟩ := lσ_n σ q h s a x y
  have O : ∀ j : Int, ¬(4 + 9 * (q : Int) + 1 ≤ j ∧ j ≤ 4 + 9 * q + 5) → lσ σ q h s a x y j = σ j := fun j hj => lσ_o hj
  unfold V
  rw [O 0 (by omega), O 1 (by omega), O 2 (by omega), O 3 (by omega), O 58 (by omega)]
  refine ⟨v0, v1, v2, v3, v58, fun r hr => ?_, fun i i0 i1 => ?_, fun t ht => ?_⟩
  · by_cases hqr : r = q
    · subst hqr
      have hp := vp r hr
      obtain ⟨l1, l2, l3, l4⟩ := hl
      unfold PV at hp ⊢
      simp only at hp ⊢
      rw [n1, n2, n3, n4, n5, O (4 + 9 * r + 0) (by omega), O (4 + 9 * r + 6) (by omega), O (4 + 9 * r + 7) (by omega), O (4 + 9 * r + 8) (by omega)]
      refine ⟨hp.1, l1, l2, l3, ?_, hp.2.2.2.2.2⟩
      rcases l4 with l4 | l4
      · exact Or.inl l4
      · exact Or.inr ⟨l4.1, l4.2.1, l4.2.2.1⟩
    · exact PV_c (fun j j0 j1 => (O _ (by omega)).symm) (vp r hr)
  · rw [O (59 + 2 * i) (by omega), O (60 + 2 * i) (by omega)]; exact vb i i0 i1
  · rw [O (83 + t) (by omega)]
    refine ⟨(vt t ht).1, fun i i0 i1 => ?_⟩
    rw [O (86 + 200 * t + i) (by omega)]; exact (vt t ht).2 i i0 i1
theorem Tb_l {z z' : Nat → Int → Int} {t q : Nat} {σ : Int → Int} {h s a x y : Int} (h3 : 0 ≤ σ 3 ∧ σ 3 ≤ 6) (h58 : σ 58 ≤ 12) (hT : Tb z t σ) (hq : (q : Int) < σ 3) (hF : ∀ k, k ≠ t + 4 + q → z' k = z k) (hL : z' (t + 4 + q) = lensZ z (t + 4 + q) h s a x y (t + 4 + q)) : Tb z' t (lσ σ q h s a x y) := by
  obtain ⟨t1, t2, t3, t4⟩ := hT
  obtain ⟨n1, n2, n3, n4, n5⟩ := lσ_n σ q h s a x y
  have O : ∀ j : Int, ¬(4 + 9 * (q : Int) + 1 ≤ j ∧ j ≤ 4 + 9 * q + 5) → lσ σ q h s a x y j = σ j := fun j hj => lσ_o hj
  refine ⟨by rw [hF t (by omega), O 3 (by omega)]; exact t1, by rw [hF t (by omega), O 58 (by omega)]; exact t2, fun r hr f f0 f1 => ?_, fun i i0 i1 => ?_⟩
  · rw [O 3 (by omega)] at hr
    by_cases hrq : r = q
    · subst hrq
      rw [hL]
      unfold lensZ
      rcases f9 f0 f1 with rfl | rfl | rfl | rfl | rfl | rfl | rfl | rfl | rfl
      · rw [O _ (by omega)]; simp (disch := omega) only [up_col]; exact t3 r hr 0 (by decide) (by decide)
      · rw [n1]; simp (disch := omega) only [up_col, up_same]
      · rw [n2]; simp (disch := omega) only [up_col, up_same]
      · rw [n3]; simp (disch := omega) only [up_col, up_same]
      · rw [n4]; simp (disch := omega) only [up_col, up_same]
      · rw [n5]; simp (disch := omega) only [up_same]
      · rw [O _ (by omega)]; simp (disch := omega) only [up_col]; exact t3 r hr 6 (by decide) (by decide)
      · rw [O _ (by omega)]; simp (disch := omega) only [up_col]; exact t3 r hr 7 (by decide) (by decide)
      · rw [O _ (by omega)]; simp (disch := omega) only [up_col]; exact t3 r hr 8 (by decide) (by decide)
    · rw [hF _ (by omega), O _ (by omega)]; exact t3 r hr f f0 f1
  · rw [O 58 (by omega)] at i1
    rw [hF _ (by omega), hF _ (by omega), O (59 + 2 * i) (by omega), O (60 + 2 * i) (by omega)]
    exact t4 i i0 i1
set_option maxHeartbeats 4000000 in
theorem x_setLengths {q : Int} (hq : -2147483648 ≤ q ∧ q < 2147483648) {u1 : Int} (r1 : -2147483648 ≤ u1 ∧ u1 < 2147483648) {u2 : Int} (r2 : -2147483648 ≤ u2 ∧ u2 < 2147483648) {u3 : Int} (r3 : -2147483648 ≤ u3 ∧ u3 < 2147483648) {u4 : Int} (r4 : -2147483648 ≤ u4 ∧ u4 < 2147483648) {u5 : Int} (r5 : -2147483648 ≤ u5 ∧ u5 < 2147483648) : CC (f_X11_setLengths 0 (I3 q) (I3 u1) (I3 u2) (I3 u3) (I3 u4) (I3 u5)) (fun σ => if 0 ≤ q ∧ q < σ 3 then cif (lensOk (σ (4 + 9 * q)) u1 u2 u3 u4 u5) (σ (4 + 9 * q + 3)) (-1) else -1) (fun σ => (0 ≤ q ∧ q < σ 3) ∧ lensOk (σ (4 + 9 * q)) u1 u2 u3 u4 u5) (fun σ => lσ σ q.toNat u1 u2 u3 u4 u5) := by
  intro p z l σ n h hp hV hS h0 h6 hH
  dsimp only
  have hb := hp.1 0 (by omega)
  have hTb := isTb_B hb
  obtain ⟨⟨e1, e4⟩, v3, v58⟩ := c_tb hV hS
  unfold f_X11_setLengths
  have gh := g_hasP (p := p) (z := z) (l := l) (i := q) hTb (by omega) (by omega) hq.1 hq.2
  rw [e1] at gh
  by_cases h1 : 0 ≤ q ∧ q < σ 3
  case neg =>
    rw [bI_f h1] at gh
    simp only [if_neg h1]
    simp (disch := first | assumption | omega) only [↓b_hid, bH_some, ↓hid_W, W_some, I3_a, I3_s, I3_m, I3_n, I3_l, I3_lt, I3_le, I3_e, I3_dv, I3_rm, I3_mx, I3_mn, I3_ab, cI, bI_0, bI_1, rZ_b, up_same, up_row, up_col, xr_some, LQ_r, LQ_l, Int.sub_self, Int.add_zero, Int.zero_add, Int.sub_zero, Int.neg_neg, not_true_eq_false, not_false_eq_true, Int.add_sub_cancel, ↓ite_iH, iH_t, iH_f, bH_iH, ↓bH_bind, xr_iH, ↓xr_bind, W_iH, WI_t, WI_f, aR_34, aR_19, sR_19, gR_0_0, pR_0, gI_0, pI_0, iO_0, gR_0_1, gR_0_3, gR_0_4, gR_0_5, gR_0_6, gR_0_7, gR_0_8, gR_0_9, gR_0_10, gR_0_11, gI_B, pI_B, iO_B, gR_B0, gR_B1, aR_B, iO_Tb, gh, iH_pos, iH_neg, WI_pos, WI_neg]
    exact ⟨p, z, l, rfl, Or.inr ⟨fun hg => h1 hg.1, rfl, FrX_r z⟩⟩
  rw [bI_t h1] at gh
  have hq2 : ((q.toNat : Nat) : Int) = q := by omega
  obtain ⟨c1, c2, c3⟩ := c_pr (q := q.toNat) hV hS (by omega)
  have hP := isP_T hTb (i := q.toNat) (by omega)
  have gA := g_pAt (p := p) (z := z) (l := l) (i := q) hTb (by omega) (by omega)
  have k0 : z (p 0 + 1 + 4 + q.toNat) 0 = σ (4 + 9 * q) := by rw [c1 0 (by decide) (by decide)]; unfold Fσ; rw [hq2, Int.add_zero]
  have k3 : z (p 0 + 1 + 4 + q.toNat) 3 = σ (4 + 9 * q + 3) := by rw [c1 3 (by decide) (by decide)]; unfold Fσ; rw [hq2]
  have kr : 0 ≤ σ (4 + 9 * q) ∧ σ (4 + 9 * q) ≤ 2 := by have := c3.1; omega
  simp only [if_pos h1]
  by_cases hl : lensOk (σ (4 + 9 * q)) u1 u2 u3 u4 u5
  · have gl := fun μ => g_lens_t (μ := μ) (show -2147483648 ≤ σ (4 + 9 * q) ∧ σ (4 + 9 * q) < 2147483648 by omega) hl
    simp only [cif_t hl]
    generalize hQ : p 0 + 1 + 4 + q.toNat = Q0 at *
    simp (disch := first | assumption | omega) only [↓b_hid, bH_some, ↓hid_W, W_some, I3_a, I3_s, I3_m, I3_n, I3_l, I3_lt, I3_le, I3_e, I3_dv, I3_rm, I3_mx, I3_mn, I3_ab, cI, bI_0, bI_1, rZ_b, up_same, up_row, up_col, xr_some, LQ_r, LQ_l, Int.sub_self, Int.add_zero, Int.zero_add, Int.sub_zero, Int.neg_neg, not_true_eq_false, not_false_eq_true, Int.add_sub_cancel, ↓ite_iH, iH_t, iH_f, bH_iH, ↓bH_bind, xr_iH, ↓xr_bind, W_iH, WI_t, WI_f, aR_34, aR_19, sR_19, gR_0_0, pR_0, gI_0, pI_0, iO_0, gR_0_1, gR_0_3, gR_0_4, gR_0_5, gR_0_6, gR_0_7, gR_0_8, gR_0_9, gR_0_10, gR_0_11, gI_B, pI_B, iO_B, gR_B0, gR_B1, aR_B, iO_Tb, gh, gA, gI_P, k0, k3, gl, iO_0, iH_pos, iH_neg, WI_pos, WI_neg]
    refine W_bH (W_imp (c_save hp hV hS h0 h6 hH) ?_)
    rintro _ ⟨p', z', rfl, a0, a1, a2⟩
    have gU := g_useLengths (p := p') (z := z') (l := l) (h := u1) (s := u2) (a := u3) (b := u4) (c := u5) hP
    simp (disch := first | assumption | omega) only [↓b_hid, bH_some, ↓hid_W, W_some, I3_a, I3_s, I3_m, I3_n, I3_l, I3_lt, I3_le, I3_e, I3_dv, I3_rm, I3_mx, I3_mn, I3_ab, cI, bI_0, bI_1, rZ_b, up_same, up_row, up_col, xr_some, LQ_r, LQ_l, Int.sub_self, Int.add_zero, Int.zero_add, Int.sub_zero, Int.neg_neg, not_true_eq_false, not_false_eq_true, Int.add_sub_cancel, ↓ite_iH, iH_t, iH_f, bH_iH, ↓bH_bind, xr_iH, ↓xr_bind, W_iH, WI_t, WI_f, iO_P, gU]
    have hST := a1.2.1
    have hb' := a1.1.1 0 (by omega)
    rw [a0] at hST hb'
    refine ⟨p', _, l, rfl, Or.inl ⟨⟨h1, hl⟩, CX_mod ⟨h0, h6⟩ a1 (fun c hc _ => lensZ_row (by omega) _ _ _ _ _ _) ?_⟩⟩
    rw [a0]
    refine St_tb hST hV (fun c hc hc' => lensZ_row (by omega) _ _ _ _ _ _) (Nat.le_refl _) ?_ (fun j hj => lσ_o (by omega))
    exact Tb_l v3 v58.2 hST.2.1 (by omega) (fun c hc => lensZ_row (by omega) _ _ _ _ _ _) (by rw [hQ])
  · have gl := fun μ => g_lens_f (μ := μ) (show -2147483648 ≤ σ (4 + 9 * q) ∧ σ (4 + 9 * q) < 2147483648 by omega) r1 r2 r3 r4 r5 hl
    simp only [cif_f hl]
    generalize p 0 + 1 + 4 + q.toNat = Q0 at *
    simp (disch := first | assumption | omega) only [↓b_hid, bH_some, ↓hid_W, W_some, I3_a, I3_s, I3_m, I3_n, I3_l, I3_lt, I3_le, I3_e, I3_dv, I3_rm, I3_mx, I3_mn, I3_ab, cI, bI_0, bI_1, rZ_b, up_same, up_row, up_col, xr_some, LQ_r, LQ_l, Int.sub_self, Int.add_zero, Int.zero_add, Int.sub_zero, Int.neg_neg, not_true_eq_false, not_false_eq_true, Int.add_sub_cancel, ↓ite_iH, iH_t, iH_f, bH_iH, ↓bH_bind, xr_iH, ↓xr_bind, W_iH, WI_t, WI_f, aR_34, aR_19, sR_19, gR_0_0, pR_0, gI_0, pI_0, iO_0, gR_0_1, gR_0_3, gR_0_4, gR_0_5, gR_0_6, gR_0_7, gR_0_8, gR_0_9, gR_0_10, gR_0_11, gI_B, pI_B, iO_B, gR_B0, gR_B1, aR_B, iO_Tb, gh, gA, gI_P, k0, gl, iH_pos, iH_neg, WI_pos, WI_neg]
    exact ⟨p, z, l, rfl, Or.inr ⟨fun hg => hl hg.2, rfl, FrX_r z⟩⟩
