/-! count() and undo(), the class. -/
section
variable {p : Nat → Nat} {z l : Nat → Int → Int} {σ : Int → Int} {n : Int} {h : Int → Int → Int}
theorem k_count0 (hR : RX p z σ n h) : f_X11_count 0 (I3 0) (M p z l) = some (I3 (σ 3), M p z l) := by
  obtain ⟨hp, hV, hS, hn, hH⟩ := id hR
  have hb := hp.1 0 (by omega)
  have hTb := isTb_B hb
  have e0 : z (p 0 + 1) 1 = σ 3 := hS.2.1.1
  apply W_eq; unfold f_X11_count
  simp (disch := first | assumption | omega) only [↓b_hid, bH_some, ↓hid_W, W_some, I3_a, I3_s, I3_m, I3_n, I3_l, I3_lt, I3_le, I3_e, I3_dv, I3_rm, I3_mx, I3_mn, I3_ab, cI, bI_0, bI_1, rZ_b, up_same, up_row, up_col, xr_some, LQ_r, LQ_l, Int.sub_self, Int.add_zero, Int.zero_add, Int.sub_zero, Int.neg_neg, not_true_eq_false, not_false_eq_true, Int.add_sub_cancel, ↓ite_iH, iH_t, iH_f, bH_iH, ↓bH_bind, xr_iH, ↓xr_bind, W_iH, WI_t, WI_f, aR_34, aR_19, sR_19, gR_0_0, pR_0, gI_0, pI_0, iO_0, gR_0_1, gR_0_3, gR_0_4, gR_0_5, gR_0_6, gR_0_7, gR_0_8, gR_0_9, gR_0_10, gR_0_11, gI_B, pI_B, iO_B, gR_B0, gR_B1, aR_B, gI_Tb, e0, iH_pos, iH_neg, WI_pos, WI_neg]
theorem k_count1 (hR : RX p z σ n h) : f_X11_count 0 (I3 1) (M p z l) = some (I3 (σ 58), M p z l) := by
  obtain ⟨hp, hV, hS, hn, hH⟩ := id hR
  have hb := hp.1 0 (by omega)
  have hTb := isTb_B hb
  have e1 : z (p 0 + 1) 4 = σ 58 := hS.2.1.2.1
  apply W_eq; unfold f_X11_count
  simp (disch := first | assumption | omega) only [↓b_hid, bH_some, ↓hid_W, W_some, I3_a, I3_s, I3_m, I3_n, I3_l, I3_lt, I3_le, I3_e, I3_dv, I3_rm, I3_mx, I3_mn, I3_ab, cI, bI_0, bI_1, rZ_b, up_same, up_row, up_col, xr_some, LQ_r, LQ_l, Int.sub_self, Int.add_zero, Int.zero_add, Int.sub_zero, Int.neg_neg, not_true_eq_false, not_false_eq_true, Int.add_sub_cancel, ↓ite_iH, iH_t, iH_f, bH_iH, ↓bH_bind, xr_iH, ↓xr_bind, W_iH, WI_t, WI_f, aR_34, aR_19, sR_19, gR_0_0, pR_0, gI_0, pI_0, iO_0, gR_0_1, gR_0_3, gR_0_4, gR_0_5, gR_0_6, gR_0_7, gR_0_8, gR_0_9, gR_0_10, gR_0_11, gI_B, pI_B, iO_B, gR_B0, gR_B1, aR_B, gI_Tb, e1, iH_pos, iH_neg, WI_pos, WI_neg]
theorem k_count3 (hR : RX p z σ n h) : f_X11_count 0 (I3 3) (M p z l) = some (I3 n, M p z l) := by
  obtain ⟨hp, hV, hS, hn, hH⟩ := id hR
  have e3 : z 0 2 = n := hH.1
  apply W_eq; unfold f_X11_count
  simp (disch := first | assumption | omega) only [↓b_hid, bH_some, ↓hid_W, W_some, I3_a, I3_s, I3_m, I3_n, I3_l, I3_lt, I3_le, I3_e, I3_dv, I3_rm, I3_mx, I3_mn, I3_ab, cI, bI_0, bI_1, rZ_b, up_same, up_row, up_col, xr_some, LQ_r, LQ_l, Int.sub_self, Int.add_zero, Int.zero_add, Int.sub_zero, Int.neg_neg, not_true_eq_false, not_false_eq_true, Int.add_sub_cancel, ↓ite_iH, iH_t, iH_f, bH_iH, ↓bH_bind, xr_iH, ↓xr_bind, W_iH, WI_t, WI_f, aR_34, aR_19, sR_19, gR_0_0, pR_0, gI_0, pI_0, iO_0, gR_0_1, gR_0_3, gR_0_4, gR_0_5, gR_0_6, gR_0_7, gR_0_8, gR_0_9, gR_0_10, gR_0_11, gI_0, e3, iH_pos, iH_neg, WI_pos, WI_neg]
set_option maxHeartbeats 4000000 in
theorem k_undo (hR : RX p z σ n h) (h0 : n ≠ 0) : WP (f_X11_undo 0 (M p z l)) (fun r => ∃ p' z', r = (I3 (n - 1), M p' z' l) ∧ RX p' z' (h (n - 1)) (n - 1) h) := by
  obtain ⟨hp, hV, hS, hn, hH⟩ := id hR
  have e3 : z 0 2 = n := hH.1
  unfold f_X11_undo
  have hn1 : ((n - 1).toNat : Int) = n - 1 := by omega
  have hi : (n - 1).toNat + 1 = n.toNat := by omega
  have hbn := hp.1 n.toNat (by omega)
  have hb0 := hp.1 0 (by omega)
  obtain ⟨hVn, hSn⟩ := hH.2 (n - 1).toNat (by omega)
  rw [hn1, hi] at hSn
  rw [hn1] at hVn
  have u0 : upP p 0 (p n.toNat) 0 = p n.toNat := upP_same _ _ _
  simp (disch := first | assumption | omega) only [↓b_hid, bH_some, ↓hid_W, W_some, I3_a, I3_s, I3_m, I3_n, I3_l, I3_lt, I3_le, I3_e, I3_dv, I3_rm, I3_mx, I3_mn, I3_ab, cI, bI_0, bI_1, rZ_b, up_same, up_row, up_col, xr_some, LQ_r, LQ_l, Int.sub_self, Int.add_zero, Int.zero_add, Int.sub_zero, Int.neg_neg, not_true_eq_false, not_false_eq_true, Int.add_sub_cancel, ↓ite_iH, iH_t, iH_f, bH_iH, ↓bH_bind, xr_iH, ↓xr_bind, W_iH, WI_t, WI_f, aR_34, aR_19, sR_19, gR_0_0, pR_0, gI_0, pI_0, iO_0, gR_0_1, gR_0_3, gR_0_4, gR_0_5, gR_0_6, gR_0_7, gR_0_8, gR_0_9, gR_0_10, gR_0_11, gI_0, pI_0, e3, gR_0_1, hi, sR_19 hb0, pR_0, iH_pos, iH_neg, WI_pos, WI_neg]
  generalize hz1 : up z 0 2 (n - 1) = z1
  generalize hp1 : upP (upP p 0 (p n.toNat)) n.toNat (p 0) = p1
  have q : ∀ j, j < 7 → p1 j = if j = n.toNat then p 0 else if j = 0 then p n.toNat else p j := by
    intro j hj
    rw [← hp1]
    by_cases h1 : j = n.toNat
    · rw [if_pos h1, h1, upP_same]
    · rw [if_neg h1, upP_ne h1]
      by_cases h3 : j = 0
      · rw [if_pos h3, h3, upP_same]
      · rw [if_neg h3, upP_ne h3]
  have hPB : PB p1 := by
    refine ⟨fun j hj => ?_, fun i j hi hj hij => ?_⟩
    · rw [q j hj]; split
      · exact hb0
      · split
        · exact hbn
        · exact hp.1 j hj
    · rw [q i hi, q j hj]
      have H := hp.2
      split
      · split
        · omega
        · split
          · exact H _ _ (by omega) (by omega) (by omega)
          · exact H _ _ (by omega) (by omega) (by omega)
      · split
        · split
          · exact H _ _ (by omega) (by omega) (by omega)
          · split
            · omega
            · exact H _ _ (by omega) (by omega) (by omega)
        · split
          · exact H _ _ (by omega) (by omega) (by omega)
          · split
            · exact H _ _ (by omega) (by omega) (by omega)
            · exact H _ _ (by omega) (by omega) hij
  have r1 : ∀ k, k ≠ 0 → z1 k = z k := fun k hk => by rw [← hz1, up_row hk]
  have x3 : z1 0 2 = n - 1 := by rw [← hz1, up_same]
  have hfr : ∀ (b c : Nat), isB b → b ≤ c → c < b + 18 → z1 c = z c := fun b c hb c0 c1 => by
    have := isB_f hb c0 c1
    exact r1 c (by omega)
  refine ⟨p1, z1, rfl, hPB, hVn, ?_, by omega, x3, fun j hj => ?_⟩
  · have : p1 0 = p n.toNat := by rw [q 0 (by omega), if_neg (by omega), if_pos rfl]
    rw [this]
    exact St_congr hVn (fun c c0 c1 => hfr _ c hbn c0 c1) hSn
  · have : p1 (j + 1) = p (j + 1) := by rw [q (j + 1) (by omega), if_neg (by omega), if_neg (by omega)]
    rw [this]
    obtain ⟨b1, b2⟩ := hH.2 j (by omega)
    exact ⟨b1, St_congr b1 (fun c c0 c1 => hfr _ c (hp.1 (j + 1) (by omega)) c0 c1) b2⟩
end
