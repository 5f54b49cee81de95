/-! load(): both sides. -/
def tbR (τ : Int → Int) : Prop := (0 ≤ τ 3 ∧ τ 3 ≤ 6) ∧ (0 ≤ τ 58 ∧ τ 58 ≤ 12)
def hiO (τ τ' : Int → Int) : Prop := ∀ j : Int, j < 3 ∨ 83 ≤ j → τ' j = τ j
theorem pP3_o {T : Tx} {τ : Int → Int} {kd h s a b c q : Int} {r : Int × (Int → Int)} (hr : pP3 T τ kd h s a b c q = .inr r) : ∃ k b o r' h s a x y, r.2 = addP τ k b o r' h s a x y := by
  unfold pP3 at hr
  have h3 := rdT_i (rdT_i (rdT_i hr))
  split at h3
  · have := Sum.inr.inj h3
    rw [← this]; exact ⟨_, _, _, _, _, _, _, _, _, rfl⟩
  · cases h3
theorem pP2_o {T : Tx} {τ : Int → Int} {kd h s a q : Int} {r : Int × (Int → Int)} (hr : pP2 T τ kd h s a q = .inr r) : ∃ k b o r' h s a x y, r.2 = addP τ k b o r' h s a x y := by
  unfold pP2 at hr
  have h3 := rdT_i (rdT_i hr)
  split at h3
  · cases h3
  · exact pP3_o h3
theorem pPr_o {T : Tx} {τ : Int → Int} {q : Int} {r : Int × (Int → Int)} (hr : pPr T τ q = .inr r) : ∃ k b o r' h s a x y, r.2 = addP τ k b o r' h s a x y := by
  unfold pPr at hr
  exact pP2_o (rdT_i (rdT_i (rdT_i (rdT_i hr))))
theorem pBu_o {T : Tx} {τ : Int → Int} {q : Int} {r : Int × (Int → Int)} (hr : pBu T τ q = .inr r) : ∃ x y, r.2 = addB τ x y := by
  unfold pBu at hr
  have h3 := rdT_i (rdT_i hr)
  split at h3
  · split at h3
    · have := Sum.inr.inj h3
      rw [← this]; exact ⟨_, _, rfl⟩
    · cases h3
  · cases h3
theorem pIt_o {T : Tx} {τ : Int → Int} {q : Int} {r : Int × (Int → Int)} (hR : tbR τ) (hr : pIt T τ q = .inr r) : tbR r.2 ∧ hiO τ r.2 := by
  obtain ⟨h3, h58⟩ := hR
  by_cases hp : isPr T q
  · rw [pIt_p hp] at hr
    split at hr
    · obtain ⟨k, b, o, r', h, s, a, x, y, e⟩ := pPr_o hr
      rw [e]
      exact ⟨⟨by rw [addP_3]; omega, by rw [addP_o (by decide) (by omega)]; exact h58⟩, addP_hi ⟨h3.1, by omega⟩⟩
    · cases hr
  · by_cases hb : isBu T q
    · rw [pIt_b hp hb] at hr
      split at hr
      · obtain ⟨x, y, e⟩ := pBu_o hr
        rw [e]
        exact ⟨⟨by rw [addB_o (by decide) (by omega) (by omega)]; exact h3, by rw [(addB_n h58.1).1]; omega⟩, addB_hi ⟨h58.1, by omega⟩⟩
      · cases hr
    · rw [pIt_n hp hb] at hr; cases hr
theorem pAl_o {T : Tx} : ∀ (f : Nat) (q : Int) (τ : Int → Int) (n : Int) (r : Int × (Int → Int)), tbR τ → pAl T f q τ n = .inr r → hiO τ r.2
  | 0, q, τ, n, r, _, hr => by
    rw [pAl] at hr
    have := Sum.inr.inj hr
    rw [← this]; exact fun _ _ => rfl
  | f + 1, q, τ, n, r, hR, hr => by
    rw [pAl] at hr
    by_cases h0 : tkK T q = 0
    · rw [if_pos h0] at hr
      have := Sum.inr.inj hr
      rw [← this]; exact fun _ _ => rfl
    · rw [if_neg h0] at hr
      generalize hI : pIt T τ q = w at hr
      cases w with
      | inl e => cases hr
      | inr r1 =>
        obtain ⟨a, b⟩ := pIt_o hR hI
        have c := pAl_o f _ _ _ r a hr
        exact fun j hj => (c j hj).trans (b j hj)
theorem pTx_o {T : Tx} {σ τ : Int → Int} {v : Int} (h : pTx T σ = .inr (v, τ)) : ∀ j : Int, j < 3 ∨ 83 ≤ j → τ j = σ j := by
  obtain ⟨t3, t58, tO⟩ := τ0_v σ
  unfold pTx at h
  have := pAl_o 161 0 (τ0 σ) 0 _ ⟨by omega, by omega⟩ h
  exact fun j hj => (this j hj).trans (tO j (by omega) (by omega))
set_option maxHeartbeats 4000000 in
theorem j_load : JT (f_X11_load 0) (f_X12_load 189) := by
  intro p z l hJ
  obtain ⟨T, n, hp, hV, hS, hn, h2, hH, hC, hM, hT⟩ := id hJ
  have hb := hp.1 0 (by omega)
  have hrB := isB_r hb
  unfold f_X11_load
  simp (disch := first | assumption | omega) only [↓b_hid, bH_some, ↓hid_W, W_some, I3_a, I3_s, I3_m, I3_n, I3_l, I3_lt, I3_le, I3_e, I3_dv, I3_rm, I3_mx, I3_mn, I3_ab, cI, bI_0, bI_1, rZ_b, up_same, up_row, up_col, xr_some, LQ_r, LQ_l, Int.sub_self, Int.add_zero, Int.zero_add, Int.sub_zero, Int.neg_neg, not_true_eq_false, not_false_eq_true, Int.add_sub_cancel, ↓ite_iH, iH_t, iH_f, bH_iH, ↓bH_bind, xr_iH, ↓xr_bind, W_iH, WI_t, WI_f, aR_34, aR_19, sR_19, gR_0_0, pR_0, gI_0, pI_0, iO_0, gR_0_1, gR_0_3, gR_0_4, gR_0_5, gR_0_6, gR_0_7, gR_0_8, gR_0_9, gR_0_10, gR_0_11, gI_20, pI_20, iO_20, gR_20_0, aI_21, gR_0_3, gR_0_4]
  refine W_bH (W_imp (w_readTab (σ := z 190) hT hC hV) ?_)
  rintro _ ⟨v, z1, rfl, hU, hE⟩
  have hX1 : ∀ k, k ≤ 19 ∨ k = 21 ∨ 32 ≤ k → z1 k = z k := fun k hk => hU.1 k (by omega) (by omega)
  have u190 : z1 190 = z 190 := hX1 190 (by omega)
  have u189 : z1 189 = z 189 := hX1 189 (by omega)
  have u191 : z1 191 = z 191 := hX1 191 (by omega)
  have u192 : z1 192 = z 192 := hX1 192 (by omega)
  have hC1 : CtB z1 T := ⟨hU.2.trans hC.1, fun i i0 i1 => by rw [hX1 21 (by omega)]; exact hC.2 i i0 i1⟩
  have hS1 : St z1 (p 0) (z 190) := St_congr hV (fun k k0 k1 => hX1 k (by have := isB_f hb k0 k1; omega)) hS
  have hH1 : Hs z1 p n (pst6 z) := Hs_X hp hn.2 (fun k hk => hX1 k (by omega)) hH
  rcases hE with ⟨e, q1, rfl, q3⟩ | ⟨τ, q1, q2, q3, q4⟩
  · simp (disch := first | assumption | omega) only [↓b_hid, bH_some, ↓hid_W, W_some, I3_a, I3_s, I3_m, I3_n, I3_l, I3_lt, I3_le, I3_e, I3_dv, I3_rm, I3_mx, I3_mn, I3_ab, cI, bI_0, bI_1, rZ_b, up_same, up_row, up_col, xr_some, LQ_r, LQ_l, Int.sub_self, Int.add_zero, Int.zero_add, Int.sub_zero, Int.neg_neg, not_true_eq_false, not_false_eq_true, Int.add_sub_cancel, ↓ite_iH, iH_t, iH_f, bH_iH, ↓bH_bind, xr_iH, ↓xr_bind, W_iH, WI_t, WI_f, aR_34, aR_19, sR_19, gR_0_0, pR_0, gI_0, pI_0, iO_0, gR_0_1, gR_0_3, gR_0_4, gR_0_5, gR_0_6, gR_0_7, gR_0_8, gR_0_9, gR_0_10, gR_0_11, gI_20, pI_20, iO_20, gR_20_0, aI_21, gR_0_3, q3, iH_pos, iH_neg, WI_pos, WI_neg]
    refine ⟨⟨_, _, _, rfl⟩, ?_⟩
    refine W_imp (m_load (p := p) (z := z1) (l := l) (T := T) (σ := z 190) (n := n) hT ⟨by rw [u189]; exact hM.1, by rw [u192]; exact hM.2⟩ u190 hV (by rw [u189]; exact h2) hn.1 hn.2) ?_
    rintro _ ⟨v, z2, l2, rfl, m0, m192, hm⟩
    rcases hm with ⟨e', r1, rfl, r3, r4, r5, r6⟩ | ⟨τ', r1, _⟩
    · rw [q1] at r1
      have := Sum.inl.inj r1
      subst this
      have e190 : ∀ i : Int, 0 ≤ i → i < 686 → z 190 i = z2 190 i := fun i i0 i1 => (r3 i i0 i1).symm
      have ep : pst6 z2 = pst6 z := by unfold pst6; rw [r4, u191]
      refine ⟨rfl, p, z2, l2, rfl, T, n, hp, V_c e190 hV, ?_, hn, r5, ?_, ?_, ?_, hT⟩
      · exact St_c e190 hV (St_congr hV (fun k k0 k1 => m0 k (by have := isB_f hb k0 k1; omega)) hS1)
      · rw [ep]; exact Hs_X hp hn.2 (fun k hk => m0 k (by omega)) hH1
      · exact ⟨by rw [m0 20 (by omega)]; exact hC1.1, by rw [m0 21 (by omega)]; exact hC1.2⟩
      · exact ⟨r6, by rw [m192, u192]; exact hM.2⟩
    · rw [q1] at r1; cases r1
  · have hvn : ¬v = -9 := by omega
    simp (disch := first | assumption | omega) only [↓b_hid, bH_some, ↓hid_W, W_some, I3_a, I3_s, I3_m, I3_n, I3_l, I3_lt, I3_le, I3_e, I3_dv, I3_rm, I3_mx, I3_mn, I3_ab, cI, bI_0, bI_1, rZ_b, up_same, up_row, up_col, xr_some, LQ_r, LQ_l, Int.sub_self, Int.add_zero, Int.zero_add, Int.sub_zero, Int.neg_neg, not_true_eq_false, not_false_eq_true, Int.add_sub_cancel, ↓ite_iH, iH_t, iH_f, bH_iH, ↓bH_bind, xr_iH, ↓xr_bind, W_iH, WI_t, WI_f, aR_34, aR_19, sR_19, gR_0_0, pR_0, gI_0, pI_0, iO_0, gR_0_1, gR_0_3, gR_0_4, gR_0_5, gR_0_6, gR_0_7, gR_0_8, gR_0_9, gR_0_10, gR_0_11, iO_0, iH_pos, iH_neg, WI_pos, WI_neg]
    refine W_bH (W_imp (c_save hp hV hS1 hn.1 hn.2 hH1) ?_)
    rintro _ ⟨p', z', rfl, a0, a1, a2⟩
    have hb' := a1.1.1 0 (by omega)
    have hrB' := isB_r hb'
    have hTb' := isTb_B hb'
    have hST := a1.2.1
    have gC := g_tbcopy (p := p') (z := z') (l := l) (a := p' 0 + 1) (b := 22) hTb' isTb_22 (by omega)
    simp (disch := first | assumption | omega) only [↓b_hid, bH_some, ↓hid_W, W_some, I3_a, I3_s, I3_m, I3_n, I3_l, I3_lt, I3_le, I3_e, I3_dv, I3_rm, I3_mx, I3_mn, I3_ab, cI, bI_0, bI_1, rZ_b, up_same, up_row, up_col, xr_some, LQ_r, LQ_l, Int.sub_self, Int.add_zero, Int.zero_add, Int.sub_zero, Int.neg_neg, not_true_eq_false, not_false_eq_true, Int.add_sub_cancel, ↓ite_iH, iH_t, iH_f, bH_iH, ↓bH_bind, xr_iH, ↓xr_bind, W_iH, WI_t, WI_f, aR_34, aR_19, sR_19, gR_0_0, pR_0, gI_0, pI_0, iO_0, gR_0_1, gR_0_3, gR_0_4, gR_0_5, gR_0_6, gR_0_7, gR_0_8, gR_0_9, gR_0_10, gR_0_11, gI_B, pI_B, iO_B, gR_B0, gR_B1, aR_B, gI_20, pI_20, iO_20, gR_20_0, aI_21, gR_0_3, gR_0_4, iO_Tb, gC]
    refine ⟨⟨_, _, _, rfl⟩, ?_⟩
    have hv3 := q4.2.2.2.1
    have hv58 := q4.2.2.2.2.1
    have hTb : Tb z' 22 τ := Tb_congr (fun k k0 k1 => a2 k (by omega) (by omega)) hv3 q3
    have hrow : ∀ k, k < p' 0 + 1 ∨ p' 0 + 1 + 10 ≤ k → k ≠ 20 → up (tbZ z' (p' 0 + 1) 22) 20 1 0 k = z' k := fun k k0 k1 => by rw [up_row k1, tbZ_row k0]
    have hS2 : St (tbZ z' (p' 0 + 1) 22) (p' 0) τ := St_tb hST hV (fun k k0 k1 => tbZ_row (by omega) z') (Nat.le_refl _) (Tb_copy hv3 hv58.2 (by omega) hTb) (pTx_o q1)
    generalize hz3 : up (tbZ z' (p' 0 + 1) 22) 20 1 0 = z3 at *
    have hS3 : St z3 (p' 0) τ := St_congr q4 (fun k k0 k1 => by
      have := isB_f hb' k0 k1
      rw [← hz3, up_row (by omega)]) hS2
    have hx189 : ∀ k, 189 ≤ k → z3 k = z k := fun k hk => by rw [hrow k (by omega) (by omega), a1.2.2.2.1 k hk]; exact hX1 k (by omega)
    refine W_imp (m_load (p := p') (z := z3) (l := l) (T := T) (σ := z 190) (n := n) hT ⟨by rw [hx189 189 (by omega)]; exact hM.1, by rw [hx189 192 (by omega)]; exact hM.2⟩ (hx189 190 (by omega)) hV (by rw [hx189 189 (by omega)]; exact h2) hn.1 hn.2) ?_
    rintro _ ⟨w, z2, l2, rfl, m0, m192, hm⟩
    rcases hm with ⟨e', r1, _⟩ | ⟨τ', r1, r2, r3, r4, r5, r6⟩
    · rw [q1] at r1; cases r1
    · rw [q1] at r1
      have hvw := Sum.inr.inj r1
      have e1 : v = w := congrArg Prod.fst hvw
      have e2 : τ = τ' := congrArg Prod.snd hvw
      subst e1 e2
      have e190 : ∀ i : Int, 0 ≤ i → i < 686 → τ i = z2 190 i := fun i i0 i1 => (r3 i i0 i1).symm
      have e191 : pst6 z3 = pst6 z := by unfold pst6; rw [hx189 191 (by omega)]
      have hr := hsN_r hn
      have hHs := a1.2.2.1
      refine ⟨rfl, p', z2, l2, rfl, (0, fun _ => 0), hsN n, a1.1, V_c e190 q4, ?_, hr, r4, ⟨?_, fun j hj => ?_⟩, ?_, ?_, ?_⟩
      · exact St_c e190 q4 (St_congr q4 (fun k k0 k1 => m0 k (by have := isB_f hb' k0 k1; omega)) hS3)
      · rw [m0 0 (by omega), hrow 0 (by omega) (by omega)]; exact hHs.1
      · obtain ⟨b1, b2⟩ := hHs.2 j hj
        have hbj := a1.1.1 (j + 1) (by omega)
        have hsep := isB_sep hbj hb' (a1.1.2 (j + 1) 0 (by omega) (by omega) (by omega))
        have ej : ∀ i : Int, 0 ≤ i → i < 686 → hsP n (pst6 z) (z 190) j i = pst6 z2 j i := fun i i0 i1 => by
          rw [r6 j i (by omega) hj i0 i1, e191]
        refine ⟨V_c ej b1, St_c ej b1 (St_congr b1 (fun k k0 k1 => ?_) b2)⟩
        have hf := isB_f hbj k0 k1
        rw [m0 k (by omega)]
        exact hrow k (by omega) (by omega)
      · exact ⟨by rw [m0 20 (by omega), ← hz3, up_same]; rfl, fun i i0 i1 => by simp only at i1; omega⟩
      · exact ⟨r5, fun i i0 i1 => by simp only at i1; omega⟩
      · exact ⟨by decide, fun i i0 i1 => by simp only at i1; omega⟩
