/-! THE LAW's own methods: low(), does(), tale(). -/
def lowv (x n : Int32) : Int32 := (x &&& 2147483647) - (x &&& 2147483647) / n * n
theorem low_e {x n : Int32} (hn : n ≠ 0) (μ : MS) : f_L_low x n μ = some (lowv x n, μ) := by
  unfold f_L_low rmI
  rw [if_neg hn]; rfl
theorem low_r (x : Int32) {n : Int} (h0 : 0 < n) (h1 : n < 2147483648) : ∃ a : Int, lowv x (I3 n) = I3 a ∧ 0 ≤ a ∧ a < n := by
  obtain ⟨j, hj, e⟩ := pk_andE x (m := 2147483647) 31 (by decide +kernel)
  have hj : j < 2147483648 := hj
  have e2 : x &&& 2147483647 = I3 (j : Int) := e.trans (Int32.ofInt_eq_ofNat (n := j)).symm
  have h := I3_rm (a := j) (b := n) (by omega) (by omega) h0 h1
  unfold rmI at h
  rw [if_neg (by rw [show (0 : Int32) = I3 0 from rfl, I3_e (by omega) h1 (by omega) (by omega)]; omega)] at h
  have h2 := Option.some.inj h
  refine ⟨(j : Int) % n, ?_, Int.emod_nonneg _ (by omega), Int.emod_lt_of_pos _ h0⟩
  unfold lowv
  rw [e2]; exact h2
theorem low_3 (x : Int32) (μ : MS) : f_L_low x 3 μ = some (lowv x 3, μ) := low_e (by decide) μ
theorem low_17 (x : Int32) (μ : MS) : f_L_low x 17 μ = some (lowv x 17, μ) := low_e (by decide) μ
theorem low_3000 (x : Int32) (μ : MS) : f_L_low x 3000 μ = some (lowv x 3000, μ) := low_e (by decide) μ
theorem low_900 (x : Int32) (μ : MS) : f_L_low x 900 μ = some (lowv x 900, μ) := low_e (by decide) μ
theorem low_300 (x : Int32) (μ : MS) : f_L_low x 300 μ = some (lowv x 300, μ) := low_e (by decide) μ
theorem low_20000 (x : Int32) (μ : MS) : f_L_low x 20000 μ = some (lowv x 20000, μ) := low_e (by decide) μ
theorem low_60000 (x : Int32) (μ : MS) : f_L_low x 60000 μ = some (lowv x 60000, μ) := low_e (by decide) μ
theorem low_44 (x : Int32) (μ : MS) : f_L_low x 44 μ = some (lowv x 44, μ) := low_e (by decide) μ
theorem low_33 (x : Int32) (μ : MS) : f_L_low x 33 μ = some (lowv x 33, μ) := low_e (by decide) μ
theorem low_50000 (x : Int32) (μ : MS) : f_L_low x 50000 μ = some (lowv x 50000, μ) := low_e (by decide) μ
theorem W_id {m : Option (Int32 × MS)} {Q : Int32 × MS → Prop} (h : WP m Q) : WP (m.bind fun z => some (z.1, z.2)) Q := by
  obtain ⟨r, e, hq⟩ := h
  exact ⟨r, by rw [e]; rfl, hq⟩
theorem ob_some {α β : Type} (a : α) (f : α → Option β) : (some a).bind f = f a := rfl
section
variable {p : Nat → Nat} {z l : Nat → Int → Int} {σ : Int → Int} {n : Int} {h : Int → Int → Int}
set_option maxHeartbeats 4000000 in
theorem w_does (hR : RX p z σ n h) (w : Int32) : WP (f_L_does 0 w (M p z l)) (DO σ n h) := by
  unfold f_L_does
  simp only [low_3, low_17, low_3000, low_900, low_300, low_20000, low_60000, low_44, low_33, low_50000, ob_some, iO_0]
  by_cases c0 : (w &&& 15) = 0
  · rw [if_pos c0]; exact W_id (d_addProtocol _ _ _ _ hR)
  rw [if_neg c0]
  by_cases c1 : (w &&& 15) = 1
  · rw [if_pos c1]; exact W_id (d_setLengths _ _ _ _ _ _ hR)
  rw [if_neg c1]
  by_cases c2 : (w &&& 15) = 2
  · rw [if_pos c2]; exact W_id (d_addButton _ _ hR)
  rw [if_neg c2]
  by_cases c3 : (w &&& 15) = 3
  · rw [if_pos c3]; exact W_id (d_learn _ hR)
  rw [if_neg c3]
  by_cases c4 : (w &&& 15) = 4
  · rw [if_pos c4]
    by_cases c : ((w >>> (6 &&& 31)) &&& 1) = 0
    · rw [if_pos c]; exact W_id (d_setGap _ hR)
    · rw [if_neg c]; exact W_id (d_setHold _ hR)
  rw [if_neg c4]
  by_cases c5 : (w &&& 15) = 5
  · rw [if_pos c5]; exact W_id (d_setTolerance _ hR)
  rw [if_neg c5]
  by_cases c6 : (w &&& 15) = 6
  · rw [if_pos c6]; exact W_id (d_clear _ hR)
  rw [if_neg c6]
  by_cases c7 : (w &&& 15) = 7
  · rw [if_pos c7]; exact W_id (d_overlay _ _ _ hR)
  rw [if_neg c7]
  by_cases c8 : (w &&& 15) = 8
  · rw [if_pos c8]; exact W_id (d_distort _ _ _ hR)
  rw [if_neg c8]
  by_cases c9 : (w &&& 15) = 9
  · rw [if_pos c9]; exact W_id (d_sendShort _ _ _ hR)
  rw [if_neg c9]
  by_cases c10 : (w &&& 15) = 10
  · rw [if_pos c10]; exact W_id (d_append _ _ hR)
  rw [if_neg c10]
  exact W_id (d_send _ _ _ _ hR)
end
-- the sum over all that the object shows
noncomputable def tB (σ : Int → Int) : Nat → Int → Int64 → Int64
  | 0, _, a => a
  | m + 1, k, a => tB σ m (k + 1) (((a * 47) + (I3 (A_button σ k 0)).toInt64) + (17 * (I3 (A_button σ k 1)).toInt64))
noncomputable def tW (σ : Int → Int) (q : Int) : Nat → Int → Int64 → Int64
  | 0, _, a => a
  | m + 1, w, a => tW σ q m (w + 1) ((a * 43) + (I3 (A_protocol σ q w)).toInt64)
noncomputable def tQ (σ : Int → Int) : Nat → Int → Int64 → Int64
  | 0, _, a => a
  | m + 1, q, a => tQ σ m (q + 1) (tW σ q 9 0 a)
noncomputable def tD (σ : Int → Int) (s : Int) : Nat → Int → Int64 → Int64
  | 0, _, a => a
  | m + 1, k, a => tD σ s m (k + 1) ((a * 37) + (I3 (A_duration σ s k)).toInt64)
noncomputable def tE (σ : Int → Int) (s : Int) (a : Int64) : Int64 := ((((a * 41) + (I3 (A_pcount σ s)).toInt64) + (5 * (I3 (A_stray σ s)).toInt64)) + (11 * (I3 (A_fcount σ s)).toInt64)) + (13 * (I3 (A_needed σ s)).toInt64)
noncomputable def tS (σ : Int → Int) : Nat → Int → Int64 → Int64
  | 0, _, a => a
  | m + 1, s, a => tS σ m (s + 1) (tE σ s (tD σ s (σ (83 + s)).toNat 0 ((a * 31) + (I3 (σ (83 + s))).toInt64)))
noncomputable def tR (σ : Int → Int) (a : Int64) : Int64 := tB σ (σ 58).toNat 0 (tQ σ (σ 3).toNat 0 a)
noncomputable def TL (σ : Int → Int) : Int64 := tR σ (tS σ 3 0 ((3 + (I3 (σ 3)).toInt64) + (7 * (I3 (σ 58)).toInt64)))
section
variable {p : Nat → Nat} {z l : Nat → Int → Int} {σ : Int → Int} {n : Int} {h : Int → Int → Int}
set_option maxHeartbeats 4000000 in
theorem w_t178 (hR : RX p z σ n h) (a : Int64) : WP (f_L_tale_178 0 a (I3 0) (M p z l)) (fun r => ∃ z' l', r = (tB σ (σ 58).toNat 0 a, M p z' l') ∧ RX p z' σ n h) := by
  have v58 := (RX_V hR).2.2.2.2.1
  unfold f_L_tale_178
  refine lp_W (fun m st => ∃ (k : Nat) (a' : Int64) (z' l' : Nat → Int → Int), st = (0, a', I3 k, M p z' l') ∧ (k : Int) ≤ σ 58 ∧ m = (σ 58).toNat - k ∧ RX p z' σ n h ∧ tB σ m k a' = tB σ (σ 58).toNat 0 a) (fun m st hst => ?_) (n := (σ 58).toNat) ⟨0, a, z, l, rfl, by omega, rfl, hR, rfl⟩
  obtain ⟨k, a', z', l', rfl, hk, rfl, hR', hT⟩ := hst
  have gc := k_count1 (l := l') hR'
  unfold f_L_tale_178_b
  by_cases hlt : (k : Int) < σ 58
  · simp (disch := first | assumption | omega) only [↓b_hid, bH_some, ↓hid_W, W_some, I3_a, I3_s, I3_m, I3_n, I3_l, I3_lt, I3_le, I3_e, I3_dv, I3_rm, I3_mx, I3_mn, I3_ab, cI, bI_0, bI_1, rZ_b, up_same, up_row, up_col, xr_some, LQ_r, LQ_l, Int.sub_self, Int.add_zero, Int.zero_add, Int.sub_zero, Int.neg_neg, not_true_eq_false, not_false_eq_true, Int.add_sub_cancel, ↓ite_iH, iH_t, iH_f, bH_iH, ↓bH_bind, xr_iH, ↓xr_bind, W_iH, WI_t, WI_f, aR_34, aR_19, sR_19, gR_0_0, pR_0, gI_0, pI_0, iO_0, gR_0_1, gR_0_3, gR_0_4, gR_0_5, gR_0_6, gR_0_7, gR_0_8, gR_0_9, gR_0_10, gR_0_11, gc, iH_pos, iH_neg, WI_pos, WI_neg]
    refine W_bH (W_imp (ask (x_button (i := k) (w := 0) (by omega) (by omega)) hR') ?_)
    rintro _ ⟨z1, l1, rfl, hR1⟩
    simp (disch := first | assumption | omega) only [↓b_hid, bH_some, ↓hid_W, W_some, I3_a, I3_s, I3_m, I3_n, I3_l, I3_lt, I3_le, I3_e, I3_dv, I3_rm, I3_mx, I3_mn, I3_ab, cI, bI_0, bI_1, rZ_b, up_same, up_row, up_col, xr_some, LQ_r, LQ_l, Int.sub_self, Int.add_zero, Int.zero_add, Int.sub_zero, Int.neg_neg, not_true_eq_false, not_false_eq_true, Int.add_sub_cancel, ↓ite_iH, iH_t, iH_f, bH_iH, ↓bH_bind, xr_iH, ↓xr_bind, W_iH, WI_t, WI_f, aR_34, aR_19, sR_19, gR_0_0, pR_0, gI_0, pI_0, iO_0, gR_0_1, gR_0_3, gR_0_4, gR_0_5, gR_0_6, gR_0_7, gR_0_8, gR_0_9, gR_0_10, gR_0_11]
    refine W_bH (W_imp (ask (x_button (i := k) (w := 1) (by omega) (by omega)) hR1) ?_)
    rintro _ ⟨z2, l2, rfl, hR2⟩
    simp (disch := first | assumption | omega) only [↓b_hid, bH_some, ↓hid_W, W_some, I3_a, I3_s, I3_m, I3_n, I3_l, I3_lt, I3_le, I3_e, I3_dv, I3_rm, I3_mx, I3_mn, I3_ab, cI, bI_0, bI_1, rZ_b, up_same, up_row, up_col, xr_some, LQ_r, LQ_l, Int.sub_self, Int.add_zero, Int.zero_add, Int.sub_zero, Int.neg_neg, not_true_eq_false, not_false_eq_true, Int.add_sub_cancel, ↓ite_iH, iH_t, iH_f, bH_iH, ↓bH_bind, xr_iH, ↓xr_bind, W_iH, WI_t, WI_f, aR_34, aR_19, sR_19, gR_0_0, pR_0, gI_0, pI_0, iO_0, gR_0_1, gR_0_3, gR_0_4, gR_0_5, gR_0_6, gR_0_7, gR_0_8, gR_0_9, gR_0_10, gR_0_11]
    rw [show (σ 58).toNat - k = ((σ 58).toNat - (k + 1)) + 1 by omega, tB] at hT
    refine ⟨(σ 58).toNat - (k + 1), by omega, k + 1, _, z2, l2, by rw [Int.natCast_add]; rfl, by omega, rfl, hR2, ?_⟩
    rw [Int.natCast_add]; exact hT
  · rw [show (σ 58).toNat - k = 0 by omega, tB] at hT
    simp (disch := first | assumption | omega) only [↓b_hid, bH_some, ↓hid_W, W_some, I3_a, I3_s, I3_m, I3_n, I3_l, I3_lt, I3_le, I3_e, I3_dv, I3_rm, I3_mx, I3_mn, I3_ab, cI, bI_0, bI_1, rZ_b, up_same, up_row, up_col, xr_some, LQ_r, LQ_l, Int.sub_self, Int.add_zero, Int.zero_add, Int.sub_zero, Int.neg_neg, not_true_eq_false, not_false_eq_true, Int.add_sub_cancel, ↓ite_iH, iH_t, iH_f, bH_iH, ↓bH_bind, xr_iH, ↓xr_bind, W_iH, WI_t, WI_f, aR_34, aR_19, sR_19, gR_0_0, pR_0, gI_0, pI_0, iO_0, gR_0_1, gR_0_3, gR_0_4, gR_0_5, gR_0_6, gR_0_7, gR_0_8, gR_0_9, gR_0_10, gR_0_11, gc, f_L_tale_219, iH_pos, iH_neg, WI_pos, WI_neg]
    exact ⟨z', l', by rw [hT], hR'⟩
set_option maxHeartbeats 4000000 in
theorem w_t142 {q : Nat} (hq : q < 6) (hR : RX p z σ n h) (a : Int64) {Q : (Nat × Int64 × Int32 × MS) ⊕ (Int64 × MS) → Prop} (hQ : ∀ z' l', RX p z' σ n h → Q (.inl (0, tW σ q 9 0 a, I3 ((q : Int) + 1), M p z' l'))) : WP (f_L_tale_142 0 a (I3 q) (I3 0) (M p z l)) Q := by
  unfold f_L_tale_142
  refine lp_W (fun m st => ∃ (k : Nat) (a' : Int64) (z' l' : Nat → Int → Int), st = (0, a', I3 q, I3 k, M p z' l') ∧ k ≤ 9 ∧ m = 9 - k ∧ RX p z' σ n h ∧ tW σ q m k a' = tW σ q 9 0 a) (fun m st hst => ?_) (n := 9) ⟨0, a, z, l, rfl, by omega, rfl, hR, rfl⟩
  obtain ⟨k, a', z', l', rfl, hk, rfl, hR', hT⟩ := hst
  unfold f_L_tale_142_b
  by_cases hlt : k < 9
  · simp (disch := first | assumption | omega) only [↓b_hid, bH_some, ↓hid_W, W_some, I3_a, I3_s, I3_m, I3_n, I3_l, I3_lt, I3_le, I3_e, I3_dv, I3_rm, I3_mx, I3_mn, I3_ab, cI, bI_0, bI_1, rZ_b, up_same, up_row, up_col, xr_some, LQ_r, LQ_l, Int.sub_self, Int.add_zero, Int.zero_add, Int.sub_zero, Int.neg_neg, not_true_eq_false, not_false_eq_true, Int.add_sub_cancel, ↓ite_iH, iH_t, iH_f, bH_iH, ↓bH_bind, xr_iH, ↓xr_bind, W_iH, WI_t, WI_f, aR_34, aR_19, sR_19, gR_0_0, pR_0, gI_0, pI_0, iO_0, gR_0_1, gR_0_3, gR_0_4, gR_0_5, gR_0_6, gR_0_7, gR_0_8, gR_0_9, gR_0_10, gR_0_11, iH_pos, iH_neg, WI_pos, WI_neg]
    refine W_bH (W_imp (ask (x_protocol (q := q) (w := k) (by omega) (by omega)) hR') ?_)
    rintro _ ⟨z1, l1, rfl, hR1⟩
    simp (disch := first | assumption | omega) only [↓b_hid, bH_some, ↓hid_W, W_some, I3_a, I3_s, I3_m, I3_n, I3_l, I3_lt, I3_le, I3_e, I3_dv, I3_rm, I3_mx, I3_mn, I3_ab, cI, bI_0, bI_1, rZ_b, up_same, up_row, up_col, xr_some, LQ_r, LQ_l, Int.sub_self, Int.add_zero, Int.zero_add, Int.sub_zero, Int.neg_neg, not_true_eq_false, not_false_eq_true, Int.add_sub_cancel, ↓ite_iH, iH_t, iH_f, bH_iH, ↓bH_bind, xr_iH, ↓xr_bind, W_iH, WI_t, WI_f, aR_34, aR_19, sR_19, gR_0_0, pR_0, gI_0, pI_0, iO_0, gR_0_1, gR_0_3, gR_0_4, gR_0_5, gR_0_6, gR_0_7, gR_0_8, gR_0_9, gR_0_10, gR_0_11]
    rw [show 9 - k = (9 - (k + 1)) + 1 by omega, tW] at hT
    refine ⟨9 - (k + 1), by omega, k + 1, _, z1, l1, by rw [Int.natCast_add]; rfl, by omega, rfl, hR1, ?_⟩
    rw [Int.natCast_add]; exact hT
  · rw [show 9 - k = 0 by omega, tW] at hT
    simp (disch := first | assumption | omega) only [↓b_hid, bH_some, ↓hid_W, W_some, I3_a, I3_s, I3_m, I3_n, I3_l, I3_lt, I3_le, I3_e, I3_dv, I3_rm, I3_mx, I3_mn, I3_ab, cI, bI_0, bI_1, rZ_b, up_same, up_row, up_col, xr_some, LQ_r, LQ_l, Int.sub_self, Int.add_zero, Int.zero_add, Int.sub_zero, Int.neg_neg, not_true_eq_false, not_false_eq_true, Int.add_sub_cancel, ↓ite_iH, iH_t, iH_f, bH_iH, ↓bH_bind, xr_iH, ↓xr_bind, W_iH, WI_t, WI_f, aR_34, aR_19, sR_19, gR_0_0, pR_0, gI_0, pI_0, iO_0, gR_0_1, gR_0_3, gR_0_4, gR_0_5, gR_0_6, gR_0_7, gR_0_8, gR_0_9, gR_0_10, gR_0_11, f_L_tale_170, iH_pos, iH_neg, WI_pos, WI_neg]
    rw [hT]
    exact hQ z' l' hR'
set_option maxHeartbeats 4000000 in
theorem w_t130 (hR : RX p z σ n h) (a : Int64) : WP (f_L_tale_130 0 a (I3 0) (M p z l)) (fun r => ∃ z' l', r = (tR σ a, M p z' l') ∧ RX p z' σ n h) := by
  have v3 := (RX_V hR).2.2.2.1
  unfold f_L_tale_130
  refine lp_W (fun m st => ∃ (k : Nat) (a' : Int64) (z' l' : Nat → Int → Int), st = (0, a', I3 k, M p z' l') ∧ (k : Int) ≤ σ 3 ∧ m = (σ 3).toNat - k ∧ RX p z' σ n h ∧ tQ σ m k a' = tQ σ (σ 3).toNat 0 a) (fun m st hst => ?_) (n := (σ 3).toNat) ⟨0, a, z, l, rfl, by omega, rfl, hR, rfl⟩
  obtain ⟨k, a', z', l', rfl, hk, rfl, hR', hT⟩ := hst
  have gc := k_count0 (l := l') hR'
  unfold f_L_tale_130_b
  by_cases hlt : (k : Int) < σ 3
  · simp (disch := first | assumption | omega) only [↓b_hid, bH_some, ↓hid_W, W_some, I3_a, I3_s, I3_m, I3_n, I3_l, I3_lt, I3_le, I3_e, I3_dv, I3_rm, I3_mx, I3_mn, I3_ab, cI, bI_0, bI_1, rZ_b, up_same, up_row, up_col, xr_some, LQ_r, LQ_l, Int.sub_self, Int.add_zero, Int.zero_add, Int.sub_zero, Int.neg_neg, not_true_eq_false, not_false_eq_true, Int.add_sub_cancel, ↓ite_iH, iH_t, iH_f, bH_iH, ↓bH_bind, xr_iH, ↓xr_bind, W_iH, WI_t, WI_f, aR_34, aR_19, sR_19, gR_0_0, pR_0, gI_0, pI_0, iO_0, gR_0_1, gR_0_3, gR_0_4, gR_0_5, gR_0_6, gR_0_7, gR_0_8, gR_0_9, gR_0_10, gR_0_11, gc, iH_pos, iH_neg, WI_pos, WI_neg]
    rw [show (σ 3).toNat - k = ((σ 3).toNat - (k + 1)) + 1 by omega, tQ] at hT
    refine w_t142 (q := k) (by omega) hR' a' (fun z1 l1 hR1 => ?_)
    rw [LQ_l]
    refine ⟨(σ 3).toNat - (k + 1), by omega, k + 1, _, z1, l1, by rw [Int.natCast_add]; rfl, by omega, rfl, hR1, ?_⟩
    rw [Int.natCast_add]; exact hT
  · rw [show (σ 3).toNat - k = 0 by omega, tQ] at hT
    simp (disch := first | assumption | omega) only [↓b_hid, bH_some, ↓hid_W, W_some, I3_a, I3_s, I3_m, I3_n, I3_l, I3_lt, I3_le, I3_e, I3_dv, I3_rm, I3_mx, I3_mn, I3_ab, cI, bI_0, bI_1, rZ_b, up_same, up_row, up_col, xr_some, LQ_r, LQ_l, Int.sub_self, Int.add_zero, Int.zero_add, Int.sub_zero, Int.neg_neg, not_true_eq_false, not_false_eq_true, Int.add_sub_cancel, ↓ite_iH, iH_t, iH_f, bH_iH, ↓bH_bind, xr_iH, ↓xr_bind, W_iH, WI_t, WI_f, aR_34, aR_19, sR_19, gR_0_0, pR_0, gI_0, pI_0, iO_0, gR_0_1, gR_0_3, gR_0_4, gR_0_5, gR_0_6, gR_0_7, gR_0_8, gR_0_9, gR_0_10, gR_0_11, gc, f_L_tale_176, iH_pos, iH_neg, WI_pos, WI_neg]
    refine W_xr (W_imp (w_t178 hR' a') ?_)
    rintro _ ⟨z1, l1, rfl, hR1⟩
    rw [LQ_r]
    exact ⟨z1, l1, by rw [hT]; rfl, hR1⟩
theorem A_len {s : Nat} (hs : s < 3) (σ : Int → Int) : A_length σ s = σ (83 + s) := by unfold A_length; rw [if_pos (by omega)]
set_option maxHeartbeats 4000000 in
theorem w_t45 {s : Nat} (hs : s < 3) (hR : RX p z σ n h) (a : Int64) {Q : (Nat × Int64 × Int32 × MS) ⊕ (Int64 × MS) → Prop} (hQ : ∀ z' l', RX p z' σ n h → Q (.inl (0, tE σ s (tD σ s (σ (83 + s)).toNat 0 a), I3 ((s : Int) + 1), M p z' l'))) : WP (f_L_tale_45 0 a (I3 s) (I3 0) (M p z l)) Q := by
  have hv := (σ_tr (RX_V hR) hs).1
  have hA := A_len hs σ
  unfold f_L_tale_45
  refine lp_W (fun m st => ∃ (k : Nat) (a' : Int64) (z' l' : Nat → Int → Int), st = (0, a', I3 s, I3 k, M p z' l') ∧ (k : Int) ≤ σ (83 + s) ∧ m = (σ (83 + s)).toNat - k ∧ RX p z' σ n h ∧ tD σ s m k a' = tD σ s (σ (83 + s)).toNat 0 a) (fun m st hst => ?_) (n := (σ (83 + s)).toNat) ⟨0, a, z, l, rfl, by omega, rfl, hR, rfl⟩
  obtain ⟨k, a', z', l', rfl, hk, rfl, hR', hT⟩ := hst
  unfold f_L_tale_45_b
  simp (disch := first | assumption | omega) only [↓b_hid, bH_some, ↓hid_W, W_some, I3_a, I3_s, I3_m, I3_n, I3_l, I3_lt, I3_le, I3_e, I3_dv, I3_rm, I3_mx, I3_mn, I3_ab, cI, bI_0, bI_1, rZ_b, up_same, up_row, up_col, xr_some, LQ_r, LQ_l, Int.sub_self, Int.add_zero, Int.zero_add, Int.sub_zero, Int.neg_neg, not_true_eq_false, not_false_eq_true, Int.add_sub_cancel, ↓ite_iH, iH_t, iH_f, bH_iH, ↓bH_bind, xr_iH, ↓xr_bind, W_iH, WI_t, WI_f, aR_34, aR_19, sR_19, gR_0_0, pR_0, gI_0, pI_0, iO_0, gR_0_1, gR_0_3, gR_0_4, gR_0_5, gR_0_6, gR_0_7, gR_0_8, gR_0_9, gR_0_10, gR_0_11]
  refine W_bH (W_imp (ask (x_length (s := s) (by omega)) hR') ?_)
  rintro _ ⟨z1, l1, rfl, hR1⟩
  by_cases hlt : (k : Int) < σ (83 + s)
  · simp (disch := first | assumption | omega) only [↓b_hid, bH_some, ↓hid_W, W_some, I3_a, I3_s, I3_m, I3_n, I3_l, I3_lt, I3_le, I3_e, I3_dv, I3_rm, I3_mx, I3_mn, I3_ab, cI, bI_0, bI_1, rZ_b, up_same, up_row, up_col, xr_some, LQ_r, LQ_l, Int.sub_self, Int.add_zero, Int.zero_add, Int.sub_zero, Int.neg_neg, not_true_eq_false, not_false_eq_true, Int.add_sub_cancel, ↓ite_iH, iH_t, iH_f, bH_iH, ↓bH_bind, xr_iH, ↓xr_bind, W_iH, WI_t, WI_f, aR_34, aR_19, sR_19, gR_0_0, pR_0, gI_0, pI_0, iO_0, gR_0_1, gR_0_3, gR_0_4, gR_0_5, gR_0_6, gR_0_7, gR_0_8, gR_0_9, gR_0_10, gR_0_11, hA, iH_pos, iH_neg, WI_pos, WI_neg]
    refine W_bH (W_imp (ask (x_duration (s := s) (i := k) (by omega) (by omega)) hR1) ?_)
    rintro _ ⟨z2, l2, rfl, hR2⟩
    simp (disch := first | assumption | omega) only [↓b_hid, bH_some, ↓hid_W, W_some, I3_a, I3_s, I3_m, I3_n, I3_l, I3_lt, I3_le, I3_e, I3_dv, I3_rm, I3_mx, I3_mn, I3_ab, cI, bI_0, bI_1, rZ_b, up_same, up_row, up_col, xr_some, LQ_r, LQ_l, Int.sub_self, Int.add_zero, Int.zero_add, Int.sub_zero, Int.neg_neg, not_true_eq_false, not_false_eq_true, Int.add_sub_cancel, ↓ite_iH, iH_t, iH_f, bH_iH, ↓bH_bind, xr_iH, ↓xr_bind, W_iH, WI_t, WI_f, aR_34, aR_19, sR_19, gR_0_0, pR_0, gI_0, pI_0, iO_0, gR_0_1, gR_0_3, gR_0_4, gR_0_5, gR_0_6, gR_0_7, gR_0_8, gR_0_9, gR_0_10, gR_0_11]
    rw [show (σ (83 + s)).toNat - k = ((σ (83 + s)).toNat - (k + 1)) + 1 by omega, tD] at hT
    refine ⟨(σ (83 + s)).toNat - (k + 1), by omega, k + 1, _, z2, l2, by rw [Int.natCast_add]; rfl, by omega, rfl, hR2, ?_⟩
    rw [Int.natCast_add]; exact hT
  · rw [show (σ (83 + s)).toNat - k = 0 by omega, tD] at hT
    simp (disch := first | assumption | omega) only [↓b_hid, bH_some, ↓hid_W, W_some, I3_a, I3_s, I3_m, I3_n, I3_l, I3_lt, I3_le, I3_e, I3_dv, I3_rm, I3_mx, I3_mn, I3_ab, cI, bI_0, bI_1, rZ_b, up_same, up_row, up_col, xr_some, LQ_r, LQ_l, Int.sub_self, Int.add_zero, Int.zero_add, Int.sub_zero, Int.neg_neg, not_true_eq_false, not_false_eq_true, Int.add_sub_cancel, ↓ite_iH, iH_t, iH_f, bH_iH, ↓bH_bind, xr_iH, ↓xr_bind, W_iH, WI_t, WI_f, aR_34, aR_19, sR_19, gR_0_0, pR_0, gI_0, pI_0, iO_0, gR_0_1, gR_0_3, gR_0_4, gR_0_5, gR_0_6, gR_0_7, gR_0_8, gR_0_9, gR_0_10, gR_0_11, hA, iH_pos, iH_neg, WI_pos, WI_neg]
    refine W_xr ?_
    unfold f_L_tale_76
    simp (disch := first | assumption | omega) only [↓b_hid, bH_some, ↓hid_W, W_some, I3_a, I3_s, I3_m, I3_n, I3_l, I3_lt, I3_le, I3_e, I3_dv, I3_rm, I3_mx, I3_mn, I3_ab, cI, bI_0, bI_1, rZ_b, up_same, up_row, up_col, xr_some, LQ_r, LQ_l, Int.sub_self, Int.add_zero, Int.zero_add, Int.sub_zero, Int.neg_neg, not_true_eq_false, not_false_eq_true, Int.add_sub_cancel, ↓ite_iH, iH_t, iH_f, bH_iH, ↓bH_bind, xr_iH, ↓xr_bind, W_iH, WI_t, WI_f, aR_34, aR_19, sR_19, gR_0_0, pR_0, gI_0, pI_0, iO_0, gR_0_1, gR_0_3, gR_0_4, gR_0_5, gR_0_6, gR_0_7, gR_0_8, gR_0_9, gR_0_10, gR_0_11]
    refine W_bH (W_imp (ask (x_pressCount (s := s) (by omega)) hR1) ?_)
    rintro _ ⟨z2, l2, rfl, hR2⟩
    simp (disch := first | assumption | omega) only [↓b_hid, bH_some, ↓hid_W, W_some, I3_a, I3_s, I3_m, I3_n, I3_l, I3_lt, I3_le, I3_e, I3_dv, I3_rm, I3_mx, I3_mn, I3_ab, cI, bI_0, bI_1, rZ_b, up_same, up_row, up_col, xr_some, LQ_r, LQ_l, Int.sub_self, Int.add_zero, Int.zero_add, Int.sub_zero, Int.neg_neg, not_true_eq_false, not_false_eq_true, Int.add_sub_cancel, ↓ite_iH, iH_t, iH_f, bH_iH, ↓bH_bind, xr_iH, ↓xr_bind, W_iH, WI_t, WI_f, aR_34, aR_19, sR_19, gR_0_0, pR_0, gI_0, pI_0, iO_0, gR_0_1, gR_0_3, gR_0_4, gR_0_5, gR_0_6, gR_0_7, gR_0_8, gR_0_9, gR_0_10, gR_0_11]
    refine W_bH (W_imp (ask (x_strayCount (s := s) (by omega)) hR2) ?_)
    rintro _ ⟨z3, l3, rfl, hR3⟩
    simp (disch := first | assumption | omega) only [↓b_hid, bH_some, ↓hid_W, W_some, I3_a, I3_s, I3_m, I3_n, I3_l, I3_lt, I3_le, I3_e, I3_dv, I3_rm, I3_mx, I3_mn, I3_ab, cI, bI_0, bI_1, rZ_b, up_same, up_row, up_col, xr_some, LQ_r, LQ_l, Int.sub_self, Int.add_zero, Int.zero_add, Int.sub_zero, Int.neg_neg, not_true_eq_false, not_false_eq_true, Int.add_sub_cancel, ↓ite_iH, iH_t, iH_f, bH_iH, ↓bH_bind, xr_iH, ↓xr_bind, W_iH, WI_t, WI_f, aR_34, aR_19, sR_19, gR_0_0, pR_0, gI_0, pI_0, iO_0, gR_0_1, gR_0_3, gR_0_4, gR_0_5, gR_0_6, gR_0_7, gR_0_8, gR_0_9, gR_0_10, gR_0_11]
    refine W_bH (W_imp (ask (x_frameCount (s := s) (by omega)) hR3) ?_)
    rintro _ ⟨z4, l4, rfl, hR4⟩
    simp (disch := first | assumption | omega) only [↓b_hid, bH_some, ↓hid_W, W_some, I3_a, I3_s, I3_m, I3_n, I3_l, I3_lt, I3_le, I3_e, I3_dv, I3_rm, I3_mx, I3_mn, I3_ab, cI, bI_0, bI_1, rZ_b, up_same, up_row, up_col, xr_some, LQ_r, LQ_l, Int.sub_self, Int.add_zero, Int.zero_add, Int.sub_zero, Int.neg_neg, not_true_eq_false, not_false_eq_true, Int.add_sub_cancel, ↓ite_iH, iH_t, iH_f, bH_iH, ↓bH_bind, xr_iH, ↓xr_bind, W_iH, WI_t, WI_f, aR_34, aR_19, sR_19, gR_0_0, pR_0, gI_0, pI_0, iO_0, gR_0_1, gR_0_3, gR_0_4, gR_0_5, gR_0_6, gR_0_7, gR_0_8, gR_0_9, gR_0_10, gR_0_11]
    refine W_bH (W_imp (ask (x_needed (s := s) (by omega)) hR4) ?_)
    rintro _ ⟨z5, l5, rfl, hR5⟩
    simp (disch := first | assumption | omega) only [↓b_hid, bH_some, ↓hid_W, W_some, I3_a, I3_s, I3_m, I3_n, I3_l, I3_lt, I3_le, I3_e, I3_dv, I3_rm, I3_mx, I3_mn, I3_ab, cI, bI_0, bI_1, rZ_b, up_same, up_row, up_col, xr_some, LQ_r, LQ_l, Int.sub_self, Int.add_zero, Int.zero_add, Int.sub_zero, Int.neg_neg, not_true_eq_false, not_false_eq_true, Int.add_sub_cancel, ↓ite_iH, iH_t, iH_f, bH_iH, ↓bH_bind, xr_iH, ↓xr_bind, W_iH, WI_t, WI_f, aR_34, aR_19, sR_19, gR_0_0, pR_0, gI_0, pI_0, iO_0, gR_0_1, gR_0_3, gR_0_4, gR_0_5, gR_0_6, gR_0_7, gR_0_8, gR_0_9, gR_0_10, gR_0_11]
    have := hQ z5 l5 hR5
    rw [← hT] at this
    exact this
set_option maxHeartbeats 4000000 in
theorem w_t24 (hR : RX p z σ n h) (a : Int64) : WP (f_L_tale_24 0 a (I3 0) (M p z l)) (fun r => ∃ z' l', r = (tR σ (tS σ 3 0 a), M p z' l') ∧ RX p z' σ n h) := by
  unfold f_L_tale_24
  refine lp_W (fun m st => ∃ (k : Nat) (a' : Int64) (z' l' : Nat → Int → Int), st = (0, a', I3 k, M p z' l') ∧ k ≤ 3 ∧ m = 3 - k ∧ RX p z' σ n h ∧ tS σ m k a' = tS σ 3 0 a) (fun m st hst => ?_) (n := 3) ⟨0, a, z, l, rfl, by omega, rfl, hR, rfl⟩
  obtain ⟨k, a', z', l', rfl, hk, rfl, hR', hT⟩ := hst
  unfold f_L_tale_24_b
  by_cases hlt : k < 3
  · have hA := A_len hlt σ
    simp (disch := first | assumption | omega) only [↓b_hid, bH_some, ↓hid_W, W_some, I3_a, I3_s, I3_m, I3_n, I3_l, I3_lt, I3_le, I3_e, I3_dv, I3_rm, I3_mx, I3_mn, I3_ab, cI, bI_0, bI_1, rZ_b, up_same, up_row, up_col, xr_some, LQ_r, LQ_l, Int.sub_self, Int.add_zero, Int.zero_add, Int.sub_zero, Int.neg_neg, not_true_eq_false, not_false_eq_true, Int.add_sub_cancel, ↓ite_iH, iH_t, iH_f, bH_iH, ↓bH_bind, xr_iH, ↓xr_bind, W_iH, WI_t, WI_f, aR_34, aR_19, sR_19, gR_0_0, pR_0, gI_0, pI_0, iO_0, gR_0_1, gR_0_3, gR_0_4, gR_0_5, gR_0_6, gR_0_7, gR_0_8, gR_0_9, gR_0_10, gR_0_11, iH_pos, iH_neg, WI_pos, WI_neg]
    refine W_bH (W_imp (ask (x_length (s := k) (by omega)) hR') ?_)
    rintro _ ⟨z1, l1, rfl, hR1⟩
    simp (disch := first | assumption | omega) only [↓b_hid, bH_some, ↓hid_W, W_some, I3_a, I3_s, I3_m, I3_n, I3_l, I3_lt, I3_le, I3_e, I3_dv, I3_rm, I3_mx, I3_mn, I3_ab, cI, bI_0, bI_1, rZ_b, up_same, up_row, up_col, xr_some, LQ_r, LQ_l, Int.sub_self, Int.add_zero, Int.zero_add, Int.sub_zero, Int.neg_neg, not_true_eq_false, not_false_eq_true, Int.add_sub_cancel, ↓ite_iH, iH_t, iH_f, bH_iH, ↓bH_bind, xr_iH, ↓xr_bind, W_iH, WI_t, WI_f, aR_34, aR_19, sR_19, gR_0_0, pR_0, gI_0, pI_0, iO_0, gR_0_1, gR_0_3, gR_0_4, gR_0_5, gR_0_6, gR_0_7, gR_0_8, gR_0_9, gR_0_10, gR_0_11, hA]
    rw [show 3 - k = (3 - (k + 1)) + 1 by omega, tS] at hT
    refine w_t45 (s := k) hlt hR1 _ (fun z2 l2 hR2 => ?_)
    rw [LQ_l]
    refine ⟨3 - (k + 1), by omega, k + 1, _, z2, l2, by rw [Int.natCast_add]; rfl, by omega, rfl, hR2, ?_⟩
    rw [Int.natCast_add]; exact hT
  · rw [show 3 - k = 0 by omega, tS] at hT
    simp (disch := first | assumption | omega) only [↓b_hid, bH_some, ↓hid_W, W_some, I3_a, I3_s, I3_m, I3_n, I3_l, I3_lt, I3_le, I3_e, I3_dv, I3_rm, I3_mx, I3_mn, I3_ab, cI, bI_0, bI_1, rZ_b, up_same, up_row, up_col, xr_some, LQ_r, LQ_l, Int.sub_self, Int.add_zero, Int.zero_add, Int.sub_zero, Int.neg_neg, not_true_eq_false, not_false_eq_true, Int.add_sub_cancel, ↓ite_iH, iH_t, iH_f, bH_iH, ↓bH_bind, xr_iH, ↓xr_bind, W_iH, WI_t, WI_f, aR_34, aR_19, sR_19, gR_0_0, pR_0, gI_0, pI_0, iO_0, gR_0_1, gR_0_3, gR_0_4, gR_0_5, gR_0_6, gR_0_7, gR_0_8, gR_0_9, gR_0_10, gR_0_11, f_L_tale_128, iH_pos, iH_neg, WI_pos, WI_neg]
    refine W_xr (W_imp (w_t130 hR' a') ?_)
    rintro _ ⟨z1, l1, rfl, hR1⟩
    rw [LQ_r]
    exact ⟨z1, l1, by rw [hT], hR1⟩
theorem w_tale (hR : RX p z σ n h) : WP (f_L_tale 0 (M p z l)) (fun r => ∃ z' l', r = (TL σ, M p z' l') ∧ RX p z' σ n h) := by
  have g0 := k_count0 (l := l) hR
  have g1 := k_count1 (l := l) hR
  unfold f_L_tale
  simp (disch := first | assumption | omega) only [↓b_hid, bH_some, ↓hid_W, W_some, I3_a, I3_s, I3_m, I3_n, I3_l, I3_lt, I3_le, I3_e, I3_dv, I3_rm, I3_mx, I3_mn, I3_ab, cI, bI_0, bI_1, rZ_b, up_same, up_row, up_col, xr_some, LQ_r, LQ_l, Int.sub_self, Int.add_zero, Int.zero_add, Int.sub_zero, Int.neg_neg, not_true_eq_false, not_false_eq_true, Int.add_sub_cancel, ↓ite_iH, iH_t, iH_f, bH_iH, ↓bH_bind, xr_iH, ↓xr_bind, W_iH, WI_t, WI_f, aR_34, aR_19, sR_19, gR_0_0, pR_0, gI_0, pI_0, iO_0, gR_0_1, gR_0_3, gR_0_4, gR_0_5, gR_0_6, gR_0_7, gR_0_8, gR_0_9, gR_0_10, gR_0_11, g0, g1]
  exact w_t24 hR _
end
