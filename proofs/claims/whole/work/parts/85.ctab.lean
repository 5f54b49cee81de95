/-! The class reads a whole text. -/
theorem isPr_i {T : Tx} {q : Int} (hT : Tg T) (h0 : 0 ≤ q) (h1 : q ≤ T.1) : isPr T q ↔ (ckT T (tkS T q) = 1 ∧ tkE T q - tkS T q = 5 ∧ ∀ i : Nat, i < 5 → T.2 (tkS T q + i) = [112, 114, 111, 116, 111].getD i 0) := by
  have hk := (tkK_01 (T := T) (q := q)).2
  obtain ⟨k1, k2, k3⟩ := tkE_r hT h0 h1
  unfold isPr
  rw [hk]
  refine and_congr_right (fun hc => ?_)
  have hL : (tkL T q : Int) = tkE T q - tkS T q := by unfold tkL; omega
  have hd : ∀ i, tkS T q ≤ i → i < tkS T q + tkL T q → 97 ≤ T.2 i ∧ T.2 i ≤ 122 := fun i i0 i1 => by
    have := k3 (Or.inl hc) i i0 (by omega)
    rw [hc] at this
    exact (ckT_1.mp this).2
  have hl := (isWd_len (T := T) (s := tkS T q) (k := tkL T q) hd).1
  unfold tkW
  constructor
  · intro h
    have h5 := hl h
    rw [h5] at h hd
    have := (wd5 hd).mp h
    obtain ⟨b0, b1, b2, b3, b4⟩ := this
    refine ⟨by omega, fun i hi => ?_⟩
    have : i = 0 ∨ i = 1 ∨ i = 2 ∨ i = 3 ∨ i = 4 := by omega
    rcases this with rfl | rfl | rfl | rfl | rfl
    · rw [show tkS T q + ((0 : Nat) : Int) = tkS T q by omega, b0]; rfl
    · exact b1
    · exact b2
    · exact b3
    · exact b4
  · rintro ⟨h5, hi⟩
    have h5' : tkL T q = 5 := by omega
    rw [h5'] at hd ⊢
    have g0 := hi 0 (by decide)
    rw [show tkS T q + ((0 : Nat) : Int) = tkS T q by omega] at g0
    exact (wd5 hd).mpr ⟨g0, hi 1 (by decide), hi 2 (by decide), hi 3 (by decide), hi 4 (by decide)⟩
theorem isBu_i {T : Tx} {q : Int} (hT : Tg T) (h0 : 0 ≤ q) (h1 : q ≤ T.1) : isBu T q ↔ (ckT T (tkS T q) = 1 ∧ tkE T q - tkS T q = 6 ∧ ∀ i : Nat, i < 6 → T.2 (tkS T q + i) = [98, 117, 116, 116, 111, 110].getD i 0) := by
  have hk := (tkK_01 (T := T) (q := q)).2
  obtain ⟨k1, k2, k3⟩ := tkE_r hT h0 h1
  unfold isBu
  rw [hk]
  refine and_congr_right (fun hc => ?_)
  have hL : (tkL T q : Int) = tkE T q - tkS T q := by unfold tkL; omega
  have hd : ∀ i, tkS T q ≤ i → i < tkS T q + tkL T q → 97 ≤ T.2 i ∧ T.2 i ≤ 122 := fun i i0 i1 => by
    have := k3 (Or.inl hc) i i0 (by omega)
    rw [hc] at this
    exact (ckT_1.mp this).2
  have hl := (isWd_len (T := T) (s := tkS T q) (k := tkL T q) hd).2
  unfold tkW
  constructor
  · intro h
    have h5 := hl h
    rw [h5] at h hd
    have := (wd6 hd).mp h
    obtain ⟨b0, b1, b2, b3, b4, b5⟩ := this
    refine ⟨by omega, fun i hi => ?_⟩
    have : i = 0 ∨ i = 1 ∨ i = 2 ∨ i = 3 ∨ i = 4 ∨ i = 5 := by omega
    rcases this with rfl | rfl | rfl | rfl | rfl | rfl
    · rw [show tkS T q + ((0 : Nat) : Int) = tkS T q by omega, b0]; rfl
    · exact b1
    · exact b2
    · exact b3
    · exact b4
    · exact b5
  · rintro ⟨h5, hi⟩
    have h5' : tkL T q = 6 := by omega
    rw [h5'] at hd ⊢
    have g0 := hi 0 (by decide)
    rw [show tkS T q + ((0 : Nat) : Int) = tkS T q by omega] at g0
    exact (wd6 hd).mpr ⟨g0, hi 1 (by decide), hi 2 (by decide), hi 3 (by decide), hi 4 (by decide), hi 5 (by decide)⟩
theorem pIt_p {T : Tx} {τ : Int → Int} {q : Int} (h : isPr T q) : pIt T τ q = if τ 3 < 6 then pPr T τ (tkE T q) else .inl (tkS T q) := by
  unfold pIt; exact @if_pos _ (Classical.propDecidable _) h _ _ _
theorem pIt_b {T : Tx} {τ : Int → Int} {q : Int} (h : ¬isPr T q) (h' : isBu T q) : pIt T τ q = if τ 58 < 12 then pBu T τ (tkE T q) else .inl (tkS T q) := by
  unfold pIt
  rw [@if_neg _ (Classical.propDecidable _) h]
  exact @if_pos _ (Classical.propDecidable _) h' _ _ _
theorem pIt_n {T : Tx} {τ : Int → Int} {q : Int} (h : ¬isPr T q) (h' : ¬isBu T q) : pIt T τ q = .inl (tkS T q) := by
  unfold pIt
  rw [@if_neg _ (Classical.propDecidable _) h]
  exact @if_neg _ (Classical.propDecidable _) h' _ _ _
-- reading goes on
theorem rdT_i {T : Tx} {lo hi q : Int} {k : Int → Int → RT} {r : Int × (Int → Int)} (h : rdT T lo hi q k = .inr r) : k (tkV T q) (tkE T q) = .inr r := by
  by_cases hn : nOk T lo hi q
  · rw [rdT_t hn] at h; exact h
  · rw [rdT_f hn] at h; cases h
theorem tkE_ge {T : Tx} {q : Int} (hT : Tg T) (h0 : 0 ≤ q) (h1 : q ≤ T.1) : q ≤ tkE T q ∧ tkE T q ≤ T.1 := by
  have h2 := tkS_r hT h0 h1
  have h3 := tkE_r hT h0 h1
  omega
theorem pP3_ge {T : Tx} {τ : Int → Int} {kd h s a b c q : Int} {r : Int × (Int → Int)} (hT : Tg T) (h0 : 0 ≤ q) (h1 : q ≤ T.1) (hr : pP3 T τ kd h s a b c q = .inr r) : q ≤ r.1 := by
  unfold pP3 at hr
  have a1 := tkE_ge hT h0 h1
  have a2 := tkE_ge hT (show 0 ≤ tkE T q by omega) a1.2
  have a3 := tkE_ge hT (show 0 ≤ tkE T (tkE T q) by omega) a2.2
  have a4 := tkE_ge hT (show 0 ≤ tkE T (tkE T (tkE T q)) by omega) a3.2
  have h3 := rdT_i (rdT_i (rdT_i hr))
  split at h3
  · have := Sum.inr.inj h3
    rw [← this]; simp only; omega
  · cases h3
theorem pP2_ge {T : Tx} {τ : Int → Int} {kd h s a q : Int} {r : Int × (Int → Int)} (hT : Tg T) (h0 : 0 ≤ q) (h1 : q ≤ T.1) (hr : pP2 T τ kd h s a q = .inr r) : q ≤ r.1 := by
  unfold pP2 at hr
  have a1 := tkE_ge hT h0 h1
  have a2 := tkE_ge hT (show 0 ≤ tkE T q by omega) a1.2
  have h3 := rdT_i (rdT_i hr)
  split at h3
  · cases h3
  · have := pP3_ge hT (by omega) a2.2 h3
    omega
theorem pPr_ge {T : Tx} {τ : Int → Int} {q : Int} {r : Int × (Int → Int)} (hT : Tg T) (h0 : 0 ≤ q) (h1 : q ≤ T.1) (hr : pPr T τ q = .inr r) : q ≤ r.1 := by
  unfold pPr at hr
  have a1 := tkE_ge hT h0 h1
  have a2 := tkE_ge hT (show 0 ≤ tkE T q by omega) a1.2
  have a3 := tkE_ge hT (show 0 ≤ tkE T (tkE T q) by omega) a2.2
  have a4 := tkE_ge hT (show 0 ≤ tkE T (tkE T (tkE T q)) by omega) a3.2
  have h3 := pP2_ge hT (by omega) a4.2 (rdT_i (rdT_i (rdT_i (rdT_i hr))))
  omega
theorem pBu_ge {T : Tx} {τ : Int → Int} {q : Int} {r : Int × (Int → Int)} (hT : Tg T) (h0 : 0 ≤ q) (h1 : q ≤ T.1) (hr : pBu T τ q = .inr r) : q ≤ r.1 := by
  unfold pBu at hr
  have a1 := tkE_ge hT h0 h1
  have a2 := tkE_ge hT (show 0 ≤ tkE T q by omega) a1.2
  have a3 := tkE_ge hT (show 0 ≤ tkE T (tkE T q) by omega) a2.2
  have h3 := rdT_i (rdT_i hr)
  split at h3
  · split at h3
    · have := Sum.inr.inj h3
      rw [← this]; simp only; omega
    · cases h3
  · cases h3
theorem pIt_gt {T : Tx} {τ : Int → Int} {q : Int} {r : Int × (Int → Int)} (hT : Tg T) (h0 : 0 ≤ q) (h1 : q ≤ T.1) (hr : pIt T τ q = .inr r) : q < r.1 := by
  have a1 := tkE_ge hT h0 h1
  have s1 := tkS_r hT h0 h1
  have k2 := (tkE_r hT h0 h1).2.1
  by_cases hp : isPr T q
  · have hc := tkK_01.2.mp hp.1
    rw [pIt_p hp] at hr
    split at hr
    · have := pPr_ge hT (by omega) a1.2 hr
      have := k2 (by omega)
      omega
    · cases hr
  · by_cases hb : isBu T q
    · have hc := tkK_01.2.mp hb.1
      rw [pIt_b hp hb] at hr
      split at hr
      · have := pBu_ge hT (by omega) a1.2 hr
        have := k2 (by omega)
        omega
      · cases hr
    · rw [pIt_n hp hb] at hr; cases hr
section
variable {p : Nat → Nat} {z l : Nat → Int → Int}
set_option maxHeartbeats 8000000 in
theorem w_readIt {T : Tx} {z0 : Nat → Int → Int} {τ : Int → Int} {q : Int} (hT : Tg T) (hU : FrU z0 z) (hC : CtB z T) (h0 : 0 ≤ q) (h1 : q ≤ T.1) (h2 : z 20 2 = ckT T (tkS T q)) (h3 : z 20 3 = tkS T q) (h4 : z 20 4 = tkE T q) (hTb : Tb z 22 τ) (hV : V τ) : WP (f_X9_readItem 20 22 (M p z l)) (QR p l T z0 (pIt T τ q)) := by
  have a1 := tkE_ge hT h0 h1
  have s1 := tkS_r hT h0 h1
  have k1 := tkE_r hT h0 h1
  have ckr := ckT_r T (tkS T q)
  have h3' := hV.2.2.2.1
  have h58' := hV.2.2.2.2.1
  have t1 : z 22 1 = τ 3 := hTb.1
  have t4 : z 22 4 = τ 58 := hTb.2.1
  have i8 : ∀ {α : Type} (z : Nat → Int → Int) (e : Option α), isO (M p z l) 8 22 e = e := fun z e => iO_Tb isTb_22 e
  have w1 := w_isWd (p := p) (z := z) (l := l) (W := [112, 114, 111, 116, 111]) hT hC (by omega) k1.1.1 a1.2 h2 ckr h3 h4 (by decide) (fun i hi => by
    have : i = 0 ∨ i = 1 ∨ i = 2 ∨ i = 3 ∨ i = 4 := by simp at hi; omega
    rcases this with rfl | rfl | rfl | rfl | rfl <;> decide)
  have w2 := w_isWd (p := p) (z := z) (l := l) (W := [98, 117, 116, 116, 111, 110]) hT hC (by omega) k1.1.1 a1.2 h2 ckr h3 h4 (by decide) (fun i hi => by
    have : i = 0 ∨ i = 1 ∨ i = 2 ∨ i = 3 ∨ i = 4 ∨ i = 5 := by simp at hi; omega
    rcases this with rfl | rfl | rfl | rfl | rfl | rfl <;> decide)
  have i1 := isPr_i hT h0 h1
  have i2 := isBu_i hT h0 h1
  have w1 : WP (f_X9_isWord 20 [I3 112, I3 114, I3 111, I3 116, I3 111] (M p z l)) (fun r => ∃ v, r = (I3 v, M p z l) ∧ ((v = 1 ∧ isPr T q) ∨ (v = 0 ∧ ¬isPr T q))) := by
    rw [i1]; exact w1
  have w2 : WP (f_X9_isWord 20 [I3 98, I3 117, I3 116, I3 116, I3 111, I3 110] (M p z l)) (fun r => ∃ v, r = (I3 v, M p z l) ∧ ((v = 1 ∧ isBu T q) ∨ (v = 0 ∧ ¬isBu T q))) := by
    rw [i2]; exact w2
  unfold f_X9_readItem
  simp (disch := first | assumption | omega) only [↓b_hid, bH_some, ↓hid_W, W_some, I3_a, I3_s, I3_m, I3_n, I3_l, I3_lt, I3_le, I3_e, I3_dv, I3_rm, I3_mx, I3_mn, I3_ab, cI, bI_0, bI_1, rZ_b, up_same, up_row, up_col, xr_some, LQ_r, LQ_l, Int.sub_self, Int.add_zero, Int.zero_add, Int.sub_zero, Int.neg_neg, not_true_eq_false, not_false_eq_true, Int.add_sub_cancel, ↓ite_iH, iH_t, iH_f, bH_iH, ↓bH_bind, xr_iH, ↓xr_bind, W_iH, WI_t, WI_f, gI_20, pI_20, iO_20, gR_20_0, aI_21]
  refine W_bH (W_imp w1 ?_)
  rintro _ ⟨v, rfl, hv⟩
  rcases hv with ⟨rfl, hp⟩ | ⟨rfl, hp⟩
  · rw [pIt_p hp]
    by_cases h6 : τ 3 < 6
    · rw [if_pos h6]
      have gf := g_pfull (p := p) (z := z) (l := l) (t := 22) isTb_22 (by omega) (by omega)
      rw [t1, bI_f (by omega)] at gf
      simp (disch := first | assumption | omega) only [↓b_hid, bH_some, ↓hid_W, W_some, I3_a, I3_s, I3_m, I3_n, I3_l, I3_lt, I3_le, I3_e, I3_dv, I3_rm, I3_mx, I3_mn, I3_ab, cI, bI_0, bI_1, rZ_b, up_same, up_row, up_col, xr_some, LQ_r, LQ_l, Int.sub_self, Int.add_zero, Int.zero_add, Int.sub_zero, Int.neg_neg, not_true_eq_false, not_false_eq_true, Int.add_sub_cancel, ↓ite_iH, iH_t, iH_f, bH_iH, ↓bH_bind, xr_iH, ↓xr_bind, W_iH, WI_t, WI_f, gI_20, pI_20, iO_20, gR_20_0, aI_21, i8, gf, iH_pos, iH_neg, WI_pos, WI_neg]
      refine W_bH (W_imp (w_readPr hT hU hC (by omega) a1.2 h4 hTb hV h6) ?_)
      rintro _ ⟨w, z1, rfl, b1, b2⟩
      rcases b2 with ⟨e, r1, rfl, r3⟩ | ⟨q', τ', r1, rfl, r3⟩
      · simp (disch := first | assumption | omega) only [↓b_hid, bH_some, ↓hid_W, W_some, I3_a, I3_s, I3_m, I3_n, I3_l, I3_lt, I3_le, I3_e, I3_dv, I3_rm, I3_mx, I3_mn, I3_ab, cI, bI_0, bI_1, rZ_b, up_same, up_row, up_col, xr_some, LQ_r, LQ_l, Int.sub_self, Int.add_zero, Int.zero_add, Int.sub_zero, Int.neg_neg, not_true_eq_false, not_false_eq_true, Int.add_sub_cancel, ↓ite_iH, iH_t, iH_f, bH_iH, ↓bH_bind, xr_iH, ↓xr_bind, W_iH, WI_t, WI_f, iH_pos, iH_neg, WI_pos, WI_neg]
        exact ⟨0, z1, rfl, b1, Or.inl ⟨e, r1, rfl, r3⟩⟩
      · simp (disch := first | assumption | omega) only [↓b_hid, bH_some, ↓hid_W, W_some, I3_a, I3_s, I3_m, I3_n, I3_l, I3_lt, I3_le, I3_e, I3_dv, I3_rm, I3_mx, I3_mn, I3_ab, cI, bI_0, bI_1, rZ_b, up_same, up_row, up_col, xr_some, LQ_r, LQ_l, Int.sub_self, Int.add_zero, Int.zero_add, Int.sub_zero, Int.neg_neg, not_true_eq_false, not_false_eq_true, Int.add_sub_cancel, ↓ite_iH, iH_t, iH_f, bH_iH, ↓bH_bind, xr_iH, ↓xr_bind, W_iH, WI_t, WI_f, iH_pos, iH_neg, WI_pos, WI_neg]
        exact ⟨1, z1, rfl, b1, Or.inr ⟨q', τ', r1, rfl, r3⟩⟩
    · rw [if_neg h6]
      have gf := g_pfull (p := p) (z := z) (l := l) (t := 22) isTb_22 (by omega) (by omega)
      rw [t1, bI_t (by omega)] at gf
      simp (disch := first | assumption | omega) only [↓b_hid, bH_some, ↓hid_W, W_some, I3_a, I3_s, I3_m, I3_n, I3_l, I3_lt, I3_le, I3_e, I3_dv, I3_rm, I3_mx, I3_mn, I3_ab, cI, bI_0, bI_1, rZ_b, up_same, up_row, up_col, xr_some, LQ_r, LQ_l, Int.sub_self, Int.add_zero, Int.zero_add, Int.sub_zero, Int.neg_neg, not_true_eq_false, not_false_eq_true, Int.add_sub_cancel, ↓ite_iH, iH_t, iH_f, bH_iH, ↓bH_bind, xr_iH, ↓xr_bind, W_iH, WI_t, WI_f, gI_20, pI_20, iO_20, gR_20_0, aI_21, i8, gf, iH_pos, iH_neg, WI_pos, WI_neg]
      exact qr_no hU h3
  · simp (disch := first | assumption | omega) only [↓b_hid, bH_some, ↓hid_W, W_some, I3_a, I3_s, I3_m, I3_n, I3_l, I3_lt, I3_le, I3_e, I3_dv, I3_rm, I3_mx, I3_mn, I3_ab, cI, bI_0, bI_1, rZ_b, up_same, up_row, up_col, xr_some, LQ_r, LQ_l, Int.sub_self, Int.add_zero, Int.zero_add, Int.sub_zero, Int.neg_neg, not_true_eq_false, not_false_eq_true, Int.add_sub_cancel, ↓ite_iH, iH_t, iH_f, bH_iH, ↓bH_bind, xr_iH, ↓xr_bind, W_iH, WI_t, WI_f, gI_20, pI_20, iO_20, gR_20_0, aI_21, iH_pos, iH_neg, WI_pos, WI_neg]
    refine W_bH (W_imp w2 ?_)
    rintro _ ⟨v, rfl, hv⟩
    rcases hv with ⟨rfl, hb⟩ | ⟨rfl, hb⟩
    · rw [pIt_b hp hb]
      by_cases h12 : τ 58 < 12
      · rw [if_pos h12]
        have gf := g_bfull (p := p) (z := z) (l := l) (t := 22) isTb_22 (by omega) (by omega)
        rw [t4, bI_f (by omega)] at gf
        simp (disch := first | assumption | omega) only [↓b_hid, bH_some, ↓hid_W, W_some, I3_a, I3_s, I3_m, I3_n, I3_l, I3_lt, I3_le, I3_e, I3_dv, I3_rm, I3_mx, I3_mn, I3_ab, cI, bI_0, bI_1, rZ_b, up_same, up_row, up_col, xr_some, LQ_r, LQ_l, Int.sub_self, Int.add_zero, Int.zero_add, Int.sub_zero, Int.neg_neg, not_true_eq_false, not_false_eq_true, Int.add_sub_cancel, ↓ite_iH, iH_t, iH_f, bH_iH, ↓bH_bind, xr_iH, ↓xr_bind, W_iH, WI_t, WI_f, gI_20, pI_20, iO_20, gR_20_0, aI_21, i8, gf, iH_pos, iH_neg, WI_pos, WI_neg]
        refine W_bH (W_imp (w_readBu hT hU hC (by omega) a1.2 h4 hTb hV h12) ?_)
        rintro _ ⟨w, z1, rfl, b1, b2⟩
        rcases b2 with ⟨e, r1, rfl, r3⟩ | ⟨q', τ', r1, rfl, r3⟩
        · simp (disch := first | assumption | omega) only [↓b_hid, bH_some, ↓hid_W, W_some, I3_a, I3_s, I3_m, I3_n, I3_l, I3_lt, I3_le, I3_e, I3_dv, I3_rm, I3_mx, I3_mn, I3_ab, cI, bI_0, bI_1, rZ_b, up_same, up_row, up_col, xr_some, LQ_r, LQ_l, Int.sub_self, Int.add_zero, Int.zero_add, Int.sub_zero, Int.neg_neg, not_true_eq_false, not_false_eq_true, Int.add_sub_cancel, ↓ite_iH, iH_t, iH_f, bH_iH, ↓bH_bind, xr_iH, ↓xr_bind, W_iH, WI_t, WI_f, iH_pos, iH_neg, WI_pos, WI_neg]
          exact ⟨0, z1, rfl, b1, Or.inl ⟨e, r1, rfl, r3⟩⟩
        · simp (disch := first | assumption | omega) only [↓b_hid, bH_some, ↓hid_W, W_some, I3_a, I3_s, I3_m, I3_n, I3_l, I3_lt, I3_le, I3_e, I3_dv, I3_rm, I3_mx, I3_mn, I3_ab, cI, bI_0, bI_1, rZ_b, up_same, up_row, up_col, xr_some, LQ_r, LQ_l, Int.sub_self, Int.add_zero, Int.zero_add, Int.sub_zero, Int.neg_neg, not_true_eq_false, not_false_eq_true, Int.add_sub_cancel, ↓ite_iH, iH_t, iH_f, bH_iH, ↓bH_bind, xr_iH, ↓xr_bind, W_iH, WI_t, WI_f, iH_pos, iH_neg, WI_pos, WI_neg]
          exact ⟨1, z1, rfl, b1, Or.inr ⟨q', τ', r1, rfl, r3⟩⟩
      · rw [if_neg h12]
        have gf := g_bfull (p := p) (z := z) (l := l) (t := 22) isTb_22 (by omega) (by omega)
        rw [t4, bI_t (by omega)] at gf
        simp (disch := first | assumption | omega) only [↓b_hid, bH_some, ↓hid_W, W_some, I3_a, I3_s, I3_m, I3_n, I3_l, I3_lt, I3_le, I3_e, I3_dv, I3_rm, I3_mx, I3_mn, I3_ab, cI, bI_0, bI_1, rZ_b, up_same, up_row, up_col, xr_some, LQ_r, LQ_l, Int.sub_self, Int.add_zero, Int.zero_add, Int.sub_zero, Int.neg_neg, not_true_eq_false, not_false_eq_true, Int.add_sub_cancel, ↓ite_iH, iH_t, iH_f, bH_iH, ↓bH_bind, xr_iH, ↓xr_bind, W_iH, WI_t, WI_f, gI_20, pI_20, iO_20, gR_20_0, aI_21, i8, gf, iH_pos, iH_neg, WI_pos, WI_neg]
        exact qr_no hU h3
    · rw [pIt_n hp hb]
      simp (disch := first | assumption | omega) only [↓b_hid, bH_some, ↓hid_W, W_some, I3_a, I3_s, I3_m, I3_n, I3_l, I3_lt, I3_le, I3_e, I3_dv, I3_rm, I3_mx, I3_mn, I3_ab, cI, bI_0, bI_1, rZ_b, up_same, up_row, up_col, xr_some, LQ_r, LQ_l, Int.sub_self, Int.add_zero, Int.zero_add, Int.sub_zero, Int.neg_neg, not_true_eq_false, not_false_eq_true, Int.add_sub_cancel, ↓ite_iH, iH_t, iH_f, bH_iH, ↓bH_bind, xr_iH, ↓xr_bind, W_iH, WI_t, WI_f, iH_pos, iH_neg, WI_pos, WI_neg]
      exact qr_no hU h3
end
def τ0 (σ : Int → Int) : Int → Int := fun j => if j = 3 then 0 else if j = 58 then 0 else σ j
theorem τ0_v (σ : Int → Int) : τ0 σ 3 = 0 ∧ τ0 σ 58 = 0 ∧ ∀ j, j ≠ 3 → j ≠ 58 → τ0 σ j = σ j := ⟨by unfold τ0; rw [if_pos rfl], by unfold τ0; rw [if_neg (by decide), if_pos rfl], fun j h1 h2 => by unfold τ0; rw [if_neg h1, if_neg h2]⟩
theorem V_τ0 {σ : Int → Int} (hV : V σ) : V (τ0 σ) := by
  obtain ⟨v0, v1, v2, v3, v58, vp, vb, vt⟩ := hV
  obtain ⟨h3, h58, O⟩ := τ0_v σ
  unfold V
  rw [h3, h58, O 0 (by decide) (by decide), O 1 (by decide) (by decide), O 2 (by decide) (by decide)]
  refine ⟨v0, v1, v2, by omega, by omega, fun q hq => by omega, fun i i0 i1 => by omega, fun t ht => ?_⟩
  rw [O (83 + t) (by omega) (by omega)]
  refine ⟨(vt t ht).1, fun i i0 i1 => ?_⟩
  rw [O (86 + 200 * t + i) (by omega) (by omega)]
  exact (vt t ht).2 i i0 i1
/-- the text, whole -/
noncomputable def pTx (T : Tx) (σ : Int → Int) : Int ⊕ (Int × (Int → Int)) := pAl T 161 0 (τ0 σ) 0
section
variable {p : Nat → Nat} {z l : Nat → Int → Int}
set_option maxHeartbeats 8000000 in
theorem w_readTab {T : Tx} {σ : Int → Int} (hT : Tg T) (hC : CtB z T) (hV : V σ) : WP (f_X9_readTable 20 22 (M p z l)) (fun r => ∃ v z', r = (I3 v, M p z' l) ∧ FrU z z' ∧ ((∃ e, pTx T σ = .inl e ∧ v = -9 ∧ z' 20 3 = e) ∨ (∃ τ', pTx T σ = .inr (v, τ') ∧ (0 ≤ v ∧ v ≤ 160) ∧ Tb z' 22 τ' ∧ V τ'))) := by
  have i8 : ∀ {α : Type} (z : Nat → Int → Int) (e : Option α), isO (M p z l) 8 22 e = e := fun z e => iO_Tb isTb_22 e
  have p8 : ∀ (z : Nat → Int → Int) (v : Int), pI (M p z l) 8 22 1 (I3 v) = some (M p (up z 22 1 v) l) ∧ pI (M p z l) 8 22 4 (I3 v) = some (M p (up z 22 4 v) l) := fun z v => ⟨pI_Tb isTb_22 1 v, pI_Tb isTb_22 4 v⟩
  have p1 := fun z v => (p8 z v).1
  have p4 := fun z v => (p8 z v).2
  have hT1 := hT.1
  unfold f_X9_readTable f_X8_makeEmpty
  simp (disch := first | assumption | omega) only [↓b_hid, bH_some, ↓hid_W, W_some, I3_a, I3_s, I3_m, I3_n, I3_l, I3_lt, I3_le, I3_e, I3_dv, I3_rm, I3_mx, I3_mn, I3_ab, cI, bI_0, bI_1, rZ_b, up_same, up_row, up_col, xr_some, LQ_r, LQ_l, Int.sub_self, Int.add_zero, Int.zero_add, Int.sub_zero, Int.neg_neg, not_true_eq_false, not_false_eq_true, Int.add_sub_cancel, ↓ite_iH, iH_t, iH_f, bH_iH, ↓bH_bind, xr_iH, ↓xr_bind, W_iH, WI_t, WI_f, gI_20, pI_20, iO_20, gR_20_0, aI_21, i8, p1, p4]
  generalize hz1 : up (up (up z 20 4 0) 22 1 0) 22 4 0 = z1
  have hU1 : FrU z z1 := ⟨fun k k0 k1 => by rw [← hz1]; simp (disch := omega) only [up_row], by rw [← hz1]; simp (disch := omega) only [up_row, up_col]⟩
  have f41 : z1 20 4 = 0 := by rw [← hz1]; simp (disch := omega) only [up_row, up_same]
  have hTb1 : Tb z1 22 (τ0 σ) := by
    obtain ⟨h3, h58, O⟩ := τ0_v σ
    refine ⟨?_, ?_, fun q hq => by omega, fun k k0 k1 => by omega⟩
    · rw [h3, ← hz1]; simp (disch := omega) only [up_col, up_same]
    · rw [h58, ← hz1, up_same]
  unfold f_X9_readTable_11
  refine lp_W (fun n st => ∃ (k : Nat) (q : Int) (τ : Int → Int) (z' : Nat → Int → Int), st = (20, 22, I3 k, M p z' l) ∧ k + n = 161 ∧ ((k : Int) ≤ q ∧ q ≤ T.1) ∧ FrU z z' ∧ z' 20 4 = q ∧ Tb z' 22 τ ∧ V τ ∧ pTx T σ = pAl T n q τ k) (fun n st hst => ?_) (n := 161) ⟨0, 0, τ0 σ, z1, rfl, by omega, by omega, hU1, f41, hTb1, V_τ0 hV, rfl⟩
  obtain ⟨k, q, τ, z2, rfl, hkn, hq, hU, f4, hTb, hVτ, hE⟩ := hst
  obtain ⟨n, rfl⟩ : ∃ m, n = m + 1 := ⟨n - 1, by omega⟩
  have hC2 := CtB_U hU hC
  unfold f_X9_readTable_11_b
  simp (disch := first | assumption | omega) only [↓b_hid, bH_some, ↓hid_W, W_some, I3_a, I3_s, I3_m, I3_n, I3_l, I3_lt, I3_le, I3_e, I3_dv, I3_rm, I3_mx, I3_mn, I3_ab, cI, bI_0, bI_1, rZ_b, up_same, up_row, up_col, xr_some, LQ_r, LQ_l, Int.sub_self, Int.add_zero, Int.zero_add, Int.sub_zero, Int.neg_neg, not_true_eq_false, not_false_eq_true, Int.add_sub_cancel, ↓ite_iH, iH_t, iH_f, bH_iH, ↓bH_bind, xr_iH, ↓xr_bind, W_iH, WI_t, WI_f, gI_20, pI_20, iO_20, gR_20_0, aI_21, iH_pos, iH_neg, WI_pos, WI_neg]
  refine W_bH (W_imp (w_takeT hT hC2 (by omega) hq.2 f4) ?_)
  rintro _ ⟨z3, rfl, hF3, g2, g3, g4⟩
  have ckr := ckT_r T (tkS T q)
  have hU3 := FrU_t hU (FrU_T hF3)
  have hTb3 := Tb_F hF3 hVτ hTb
  rw [pAl] at hE
  by_cases hk0 : tkK T q = 0
  · rw [if_pos hk0] at hE
    have hc0 := tkK_01.1.mp hk0
    rw [hc0] at g2
    simp (disch := first | assumption | omega) only [↓b_hid, bH_some, ↓hid_W, W_some, I3_a, I3_s, I3_m, I3_n, I3_l, I3_lt, I3_le, I3_e, I3_dv, I3_rm, I3_mx, I3_mn, I3_ab, cI, bI_0, bI_1, rZ_b, up_same, up_row, up_col, xr_some, LQ_r, LQ_l, Int.sub_self, Int.add_zero, Int.zero_add, Int.sub_zero, Int.neg_neg, not_true_eq_false, not_false_eq_true, Int.add_sub_cancel, ↓ite_iH, iH_t, iH_f, bH_iH, ↓bH_bind, xr_iH, ↓xr_bind, W_iH, WI_t, WI_f, gI_20, pI_20, iO_20, gR_20_0, aI_21, g2, f_X9_readTable_29, iH_pos, iH_neg, WI_pos, WI_neg]
    exact ⟨k, z3, rfl, hU3, Or.inr ⟨τ, hE, by omega, hTb3, hVτ⟩⟩
  · rw [if_neg hk0] at hE
    have hc0 : ckT T (tkS T q) ≠ 0 := fun h => hk0 (tkK_01.1.mpr h)
    simp (disch := first | assumption | omega) only [↓b_hid, bH_some, ↓hid_W, W_some, I3_a, I3_s, I3_m, I3_n, I3_l, I3_lt, I3_le, I3_e, I3_dv, I3_rm, I3_mx, I3_mn, I3_ab, cI, bI_0, bI_1, rZ_b, up_same, up_row, up_col, xr_some, LQ_r, LQ_l, Int.sub_self, Int.add_zero, Int.zero_add, Int.sub_zero, Int.neg_neg, not_true_eq_false, not_false_eq_true, Int.add_sub_cancel, ↓ite_iH, iH_t, iH_f, bH_iH, ↓bH_bind, xr_iH, ↓xr_bind, W_iH, WI_t, WI_f, gI_20, pI_20, iO_20, gR_20_0, aI_21, g2, iH_pos, iH_neg, WI_pos, WI_neg]
    refine W_bH (W_imp (w_readIt hT hU3 (CtB_F hF3 hC2) (by omega) hq.2 g2 g3 g4 hTb3 hVτ) ?_)
    rintro _ ⟨w, z4, rfl, b1, b2⟩
    rcases b2 with ⟨e, r1, rfl, r3⟩ | ⟨q', τ', r1, rfl, r3, r4, r5, r6⟩
    · rw [r1] at hE
      simp (disch := first | assumption | omega) only [↓b_hid, bH_some, ↓hid_W, W_some, I3_a, I3_s, I3_m, I3_n, I3_l, I3_lt, I3_le, I3_e, I3_dv, I3_rm, I3_mx, I3_mn, I3_ab, cI, bI_0, bI_1, rZ_b, up_same, up_row, up_col, xr_some, LQ_r, LQ_l, Int.sub_self, Int.add_zero, Int.zero_add, Int.sub_zero, Int.neg_neg, not_true_eq_false, not_false_eq_true, Int.add_sub_cancel, ↓ite_iH, iH_t, iH_f, bH_iH, ↓bH_bind, xr_iH, ↓xr_bind, W_iH, WI_t, WI_f, f_X9_readTable_39, iH_pos, iH_neg, WI_pos, WI_neg]
      exact ⟨-9, z4, rfl, b1, Or.inl ⟨e, hE, rfl, r3⟩⟩
    · have hgt := pIt_gt hT (by omega) hq.2 r1
      rw [r1] at hE
      simp (disch := first | assumption | omega) only [↓b_hid, bH_some, ↓hid_W, W_some, I3_a, I3_s, I3_m, I3_n, I3_l, I3_lt, I3_le, I3_e, I3_dv, I3_rm, I3_mx, I3_mn, I3_ab, cI, bI_0, bI_1, rZ_b, up_same, up_row, up_col, xr_some, LQ_r, LQ_l, Int.sub_self, Int.add_zero, Int.zero_add, Int.sub_zero, Int.neg_neg, not_true_eq_false, not_false_eq_true, Int.add_sub_cancel, ↓ite_iH, iH_t, iH_f, bH_iH, ↓bH_bind, xr_iH, ↓xr_bind, W_iH, WI_t, WI_f, iH_pos, iH_neg, WI_pos, WI_neg]
      refine ⟨n, by omega, k + 1, q', τ', z4, by rw [Int.natCast_add]; rfl, by omega, by simp only at hgt; omega, b1, r3, r5, r6, ?_⟩
      rw [hE, Int.natCast_add]; rfl
end
