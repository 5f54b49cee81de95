/-! explain(): the class. -/
noncomputable def exK (P : Int → Prop) : Nat → Int → Int
  | 0, _ => -9
  | n + 1, k => cif (P k) k (exK P n (k + 1))
theorem exK_s (P : Int → Prop) (n : Nat) (k : Int) : exK P (n + 1) k = cif (P k) k (exK P n (k + 1)) := rfl
theorem exK_z (P : Int → Prop) (k : Int) : exK P 0 k = -9 := rfl
theorem exK_r (P : Int → Prop) : ∀ (n : Nat) (k : Int), 0 ≤ k → exK P n k = -9 ∨ k ≤ exK P n k ∧ exK P n k < k + n
  | 0, k, _ => Or.inl rfl
  | n + 1, k, h => by
    rw [exK]
    by_cases hp : P k
    · rw [cif_t hp]; omega
    · rw [cif_f hp]
      rcases exK_r P n (k + 1) (by omega) with h | h <;> omega
noncomputable def exJ (P : Int → Int → Prop) : Nat → Int → Int × Int
  | 0, _ => (-9, -9)
  | n + 1, j => if exK (P j) 30 0 = -9 then exJ P n (j + 1) else (j, exK (P j) 30 0)
theorem exJ_r (P : Int → Int → Prop) : ∀ (n : Nat) (j : Int), 0 ≤ j → exJ P n j = (-9, -9) ∨ (j ≤ (exJ P n j).1 ∧ (exJ P n j).1 < j + n) ∧ 0 ≤ (exJ P n j).2 ∧ (exJ P n j).2 < 30
  | 0, j, _ => Or.inl rfl
  | n + 1, j, h => by
    rw [exJ]
    split
    · rcases exJ_r P n (j + 1) (by omega) with h | h
      · exact Or.inl h
      · refine Or.inr ?_; omega
    · have := exK_r (P j) 30 0 (by omega)
      refine Or.inr ?_; simp only; omega
noncomputable def exI (P : Int → Int → Int → Prop) (nB : Nat) : Nat → Int → Int × Int × Int
  | 0, _ => (-9, -9, -9)
  | n + 1, i => if (exJ (P i) nB 0).1 = -9 then exI P nB n (i + 1) else (i, exJ (P i) nB 0)
def eP (σ : Int → Int) (s : Nat) (step i j k : Int) : Prop := lkD (σ (83 + s)) (dσ σ s) (σ 2) (colD (bσ σ i) (bσ σ j) (k * step))
noncomputable def exA (σ : Int → Int) (s : Nat) (step : Int) : Int × Int × Int := exI (eP σ s step) (σ 58).toNat (σ 58).toNat 0
def exV (r : Int × Int × Int) (part step : Int) : Int := if r.1 = -9 then -9 else if part = 0 then r.1 else if part = 1 then r.2.1 else r.2.2 * step
noncomputable def A_explain (σ : Int → Int) (s step part : Int) : Int := if 0 ≤ s ∧ s ≤ 2 then (if 50 ≤ step ∧ step ≤ 2000 then (if 0 ≤ part ∧ part ≤ 2 then exV (exA σ s.toNat step) part step else -1) else -1) else -1
/-- a call that only asks: the class's rows that may change -/
def FrX (z z' : Nat → Int → Int) : Prop := ∀ k, k ≤ 21 ∨ 57 ≤ k ∧ k < 165 ∨ 189 ≤ k → z' k = z k
theorem FrX_r (z : Nat → Int → Int) : FrX z z := fun _ _ => rfl
theorem FrX_t {z z' z'' : Nat → Int → Int} (h : FrX z z') (h' : FrX z' z'') : FrX z z'' := fun k hk => (h' k hk).trans (h k hk)
theorem FrX_S {z z' : Nat → Int → Int} {b : Nat} {σ : Int → Int} (hb : isB b) (hV : V σ) (h : FrX z z') (hS : St z b σ) : St z' b σ := by
  have := isB_r hb
  unfold isB at hb
  exact St_congr hV (fun k k0 k1 => h k (by omega)) hS
section
variable {p : Nat → Nat} {z l : Nat → Int → Int}
theorem mulR {k step : Int} (h0 : 0 ≤ k) (h1 : k ≤ 29) (h2 : 50 ≤ step) (h3 : step ≤ 2000) : 0 ≤ k * step ∧ k * step ≤ 58000 :=
  ⟨Int.mul_nonneg h0 (by omega), Int.le_trans (Int.mul_le_mul h1 h3 (by omega) (by omega)) (by decide)⟩
theorem σ_tr {σ : Int → Int} (hV : V σ) {s : Nat} (hs : s < 3) : (0 ≤ σ (83 + s) ∧ σ (83 + s) ≤ 200) ∧ ∀ i, 0 ≤ i → i < σ (83 + s) → 1 ≤ dσ σ s i ∧ dσ σ s i ≤ 60000 := hV.2.2.2.2.2.2.2 s hs
set_option maxHeartbeats 4000000 in
theorem w_exO {σ : Int → Int} {s i j : Nat} {step : Int} (hb : isB (p 0)) (hV : V σ) (hS : St z (p 0) σ) (hs : s < 3) (hi : (i : Int) < σ 58) (hj : (j : Int) < σ 58) (h2 : 50 ≤ step) (h3 : step ≤ 2000) (hx : Trx z (165 + 2 * i) (bσ σ i)) (hy : Trx z (165 + 2 * j) (bσ σ j)) : WP (f_X11_explainingOffset 0 (p 0 + 12 + 2 * s) (165 + 2 * i) (165 + 2 * j) (I3 step) (M p z l)) (fun r => ∃ v z', r = (I3 v, M p z' l) ∧ (∀ k, k < 52 ∨ 57 ≤ k → z' k = z k) ∧ ((v = -9 ∧ exK (eP σ s step i j) 30 0 = -9) ∨ (exK (eP σ s step i j) 30 0 ≠ -9 ∧ 0 ≤ v ∧ v ≤ 60000 ∧ v = exK (eP σ s step i j) 30 0 * step))) := by
  have hr := isB_r hb
  have h58 := hV.2.2.2.2.1
  have hbb := isT_B hb hs
  have gi := bσ_g hV (i := i) (by omega) hi
  have gj := bσ_g hV (i := j) (by omega) hj
  have ht := σ_tr hV hs
  have htol := hV.2.2.1
  have hbs : p 0 = 1 ∨ 57 ≤ p 0 := hr.1
  unfold f_X11_explainingOffset
  simp (disch := first | assumption | omega) only [↓b_hid, bH_some, ↓hid_W, W_some, I3_a, I3_s, I3_m, I3_n, I3_l, I3_lt, I3_le, I3_e, I3_dv, I3_rm, I3_mx, I3_mn, I3_ab, cI, bI_0, bI_1, rZ_b, up_same, up_row, up_col, xr_some, LQ_r, LQ_l, Int.sub_self, Int.add_zero, Int.zero_add, Int.sub_zero, Int.neg_neg, not_true_eq_false, not_false_eq_true, Int.add_sub_cancel, ↓ite_iH, iH_t, iH_f, bH_iH, ↓bH_bind, xr_iH, ↓xr_bind, W_iH, WI_t, WI_f, aR_34, aR_19, sR_19, gR_0_0, pR_0, gI_0, pI_0, iO_0, gR_0_1, gR_0_3, gR_0_4, gR_0_5, gR_0_6, gR_0_7, gR_0_8, gR_0_9, gR_0_10, gR_0_11, gR_0_11, iO_52]
  refine W_bH (W_imp (w_lay (isT_bf (by omega)) (isT_bf (by omega)) (by omega) (by omega) hx hy gi.1 gj.1) ?_)
  rintro _ ⟨z1, rfl, a1, a2, a3⟩
  simp (disch := first | assumption | omega) only [↓b_hid, bH_some, ↓hid_W, W_some, I3_a, I3_s, I3_m, I3_n, I3_l, I3_lt, I3_le, I3_e, I3_dv, I3_rm, I3_mx, I3_mn, I3_ab, cI, bI_0, bI_1, rZ_b, up_same, up_row, up_col, xr_some, LQ_r, LQ_l, Int.sub_self, Int.add_zero, Int.zero_add, Int.sub_zero, Int.neg_neg, not_true_eq_false, not_false_eq_true, Int.add_sub_cancel, ↓ite_iH, iH_t, iH_f, bH_iH, ↓bH_bind, xr_iH, ↓xr_bind, W_iH, WI_t, WI_f, aR_34, aR_19, sR_19, gR_0_0, pR_0, gI_0, pI_0, iO_0, gR_0_1, gR_0_3, gR_0_4, gR_0_5, gR_0_6, gR_0_7, gR_0_8, gR_0_9, gR_0_10, gR_0_11]
  unfold f_X11_explainingOffset_12
  refine lp_W (fun n st => ∃ (k : Nat) (z' : Nat → Int → Int), st = (0, p 0 + 12 + 2 * s, I3 step, I3 k, M p z' l) ∧ k ≤ 30 ∧ n = 30 - k ∧ (∀ c, c ≠ 52 → z' c = z1 c) ∧ exK (eP σ s step i j) 30 0 = exK (eP σ s step i j) (30 - k) k) (fun n st hst => ?_) ⟨0, z1, rfl, by omega, rfl, fun _ _ => rfl, rfl⟩
  obtain ⟨k, z', rfl, hk, rfl, hF, hE⟩ := hst
  have hFz : ∀ c, c < 52 ∨ 57 ≤ c → z' c = z c := fun c hc => (hF c (by omega)).trans (a3 c (by omega))
  unfold f_X11_explainingOffset_12_b
  by_cases hk30 : k < 30
  · have hm := mulR (k := k) (step := step) (by omega) (by omega) h2 h3
    have hfr : ∀ c, p 0 ≤ c → c < p 0 + 18 → z' c = z c := fun c c0 c1 => hFz c (by omega)
    have hS' : St z' (p 0) σ := St_congr hV hfr hS
    obtain ⟨m, hm30⟩ : ∃ m, 30 - k = m + 1 := ⟨29 - k, by omega⟩
    have hm2 : 30 - (k + 1) = m := by omega
    rw [hm30, exK_s _ m] at hE
    simp (disch := first | assumption | omega) only [↓b_hid, bH_some, ↓hid_W, W_some, I3_a, I3_s, I3_m, I3_n, I3_l, I3_lt, I3_le, I3_e, I3_dv, I3_rm, I3_mx, I3_mn, I3_ab, cI, bI_0, bI_1, rZ_b, up_same, up_row, up_col, xr_some, LQ_r, LQ_l, Int.sub_self, Int.add_zero, Int.zero_add, Int.sub_zero, Int.neg_neg, not_true_eq_false, not_false_eq_true, Int.add_sub_cancel, ↓ite_iH, iH_t, iH_f, bH_iH, ↓bH_bind, xr_iH, ↓xr_bind, W_iH, WI_t, WI_f, aR_34, aR_19, sR_19, gR_0_0, pR_0, gI_0, pI_0, iO_0, gR_0_1, gR_0_3, gR_0_4, gR_0_5, gR_0_6, gR_0_7, gR_0_8, gR_0_9, gR_0_10, gR_0_11, iH_pos, iH_neg, WI_pos, WI_neg]
    refine W_bH (W_imp (w_isCol (b := p 0) (o := k * step) hb rfl hbb (by omega) gi gj (by omega) (Tr_congr (hF 53 (by decide)) (hF 54 (by decide)) a1) (Tr_congr (hF 55 (by decide)) (hF 56 (by decide)) a2) (hS'.2.2 s hs) ht.1 ht.2 hS'.1.2.2 htol) ?_)
    rintro _ ⟨v, z2, rfl, b1, b2⟩
    rcases b2 with ⟨rfl, hl⟩ | ⟨rfl, hl⟩
    · have hl : eP σ s step i j k := hl
      rw [cif_t hl] at hE
      simp (disch := first | assumption | omega) only [↓b_hid, bH_some, ↓hid_W, W_some, I3_a, I3_s, I3_m, I3_n, I3_l, I3_lt, I3_le, I3_e, I3_dv, I3_rm, I3_mx, I3_mn, I3_ab, cI, bI_0, bI_1, rZ_b, up_same, up_row, up_col, xr_some, LQ_r, LQ_l, Int.sub_self, Int.add_zero, Int.zero_add, Int.sub_zero, Int.neg_neg, not_true_eq_false, not_false_eq_true, Int.add_sub_cancel, ↓ite_iH, iH_t, iH_f, bH_iH, ↓bH_bind, xr_iH, ↓xr_bind, W_iH, WI_t, WI_f, f_X11_explainingOffset_32, iH_pos, iH_neg, WI_pos, WI_neg]
      refine ⟨_, z2, rfl, fun c hc => (b1 c (by omega)).trans (hFz c hc), Or.inr ⟨by omega, by omega, by omega, by rw [hE]⟩⟩
    · have hl : ¬eP σ s step i j k := hl
      rw [cif_f hl] at hE
      simp (disch := first | assumption | omega) only [↓b_hid, bH_some, ↓hid_W, W_some, I3_a, I3_s, I3_m, I3_n, I3_l, I3_lt, I3_le, I3_e, I3_dv, I3_rm, I3_mx, I3_mn, I3_ab, cI, bI_0, bI_1, rZ_b, up_same, up_row, up_col, xr_some, LQ_r, LQ_l, Int.sub_self, Int.add_zero, Int.zero_add, Int.sub_zero, Int.neg_neg, not_true_eq_false, not_false_eq_true, Int.add_sub_cancel, ↓ite_iH, iH_t, iH_f, bH_iH, ↓bH_bind, xr_iH, ↓xr_bind, W_iH, WI_t, WI_f]
      refine ⟨_, ?_, k + 1, z2, by rw [Int.natCast_add]; rfl, by omega, rfl, fun c hc => (b1 c hc).trans (hF c hc), ?_⟩
      · omega
      · rw [hm2, Int.natCast_add]; exact hE
  · have : k = 30 := by omega
    subst this
    simp (disch := first | assumption | omega) only [↓b_hid, bH_some, ↓hid_W, W_some, I3_a, I3_s, I3_m, I3_n, I3_l, I3_lt, I3_le, I3_e, I3_dv, I3_rm, I3_mx, I3_mn, I3_ab, cI, bI_0, bI_1, rZ_b, up_same, up_row, up_col, xr_some, LQ_r, LQ_l, Int.sub_self, Int.add_zero, Int.zero_add, Int.sub_zero, Int.neg_neg, not_true_eq_false, not_false_eq_true, Int.add_sub_cancel, ↓ite_iH, iH_t, iH_f, bH_iH, ↓bH_bind, xr_iH, ↓xr_bind, W_iH, WI_t, WI_f, f_X11_explainingOffset_44, iH_pos, iH_neg, WI_pos, WI_neg]
    exact ⟨_, z', rfl, hFz, Or.inl ⟨rfl, hE⟩⟩
set_option maxHeartbeats 4000000 in
theorem c_explain {σ : Int → Int} {s step part : Int} (hb : isB (p 0)) (hV : V σ) (hS : St z (p 0) σ) (hs : -2147483648 ≤ s ∧ s < 2147483648) (hst : -2147483648 ≤ step ∧ step < 2147483648) (hpt : -2147483648 ≤ part ∧ part < 2147483648) : WP (f_X11_explain 0 (I3 s) (I3 step) (I3 part) (M p z l)) (fun r => ∃ z', r = (I3 (A_explain σ s step part), M p z' l) ∧ FrX z z') := by
  have hr := isB_r hb
  have h58 := hV.2.2.2.2.1
  unfold f_X11_explain A_explain
  by_cases h1 : 0 ≤ s ∧ s ≤ 2
  case neg =>
    rw [if_neg h1]
    simp (disch := first | assumption | omega) only [↓b_hid, bH_some, ↓hid_W, W_some, I3_a, I3_s, I3_m, I3_n, I3_l, I3_lt, I3_le, I3_e, I3_dv, I3_rm, I3_mx, I3_mn, I3_ab, cI, bI_0, bI_1, rZ_b, up_same, up_row, up_col, xr_some, LQ_r, LQ_l, Int.sub_self, Int.add_zero, Int.zero_add, Int.sub_zero, Int.neg_neg, not_true_eq_false, not_false_eq_true, Int.add_sub_cancel, ↓ite_iH, iH_t, iH_f, bH_iH, ↓bH_bind, xr_iH, ↓xr_bind, W_iH, WI_t, WI_f, g_isSlot, bI_f, iH_pos, iH_neg, WI_pos, WI_neg]
    exact ⟨z, rfl, FrX_r z⟩
  by_cases h2 : 50 ≤ step ∧ step ≤ 2000
  case neg =>
    rw [if_pos h1, if_neg h2]
    simp (disch := first | assumption | omega) only [↓b_hid, bH_some, ↓hid_W, W_some, I3_a, I3_s, I3_m, I3_n, I3_l, I3_lt, I3_le, I3_e, I3_dv, I3_rm, I3_mx, I3_mn, I3_ab, cI, bI_0, bI_1, rZ_b, up_same, up_row, up_col, xr_some, LQ_r, LQ_l, Int.sub_self, Int.add_zero, Int.zero_add, Int.sub_zero, Int.neg_neg, not_true_eq_false, not_false_eq_true, Int.add_sub_cancel, ↓ite_iH, iH_t, iH_f, bH_iH, ↓bH_bind, xr_iH, ↓xr_bind, W_iH, WI_t, WI_f, g_isSlot, g_inRange, bI_f, bI_t, iH_pos, iH_neg, WI_pos, WI_neg]
    exact ⟨z, rfl, FrX_r z⟩
  by_cases h3 : 0 ≤ part ∧ part ≤ 2
  case neg =>
    rw [if_pos h1, if_pos h2, if_neg h3]
    simp (disch := first | assumption | omega) only [↓b_hid, bH_some, ↓hid_W, W_some, I3_a, I3_s, I3_m, I3_n, I3_l, I3_lt, I3_le, I3_e, I3_dv, I3_rm, I3_mx, I3_mn, I3_ab, cI, bI_0, bI_1, rZ_b, up_same, up_row, up_col, xr_some, LQ_r, LQ_l, Int.sub_self, Int.add_zero, Int.zero_add, Int.sub_zero, Int.neg_neg, not_true_eq_false, not_false_eq_true, Int.add_sub_cancel, ↓ite_iH, iH_t, iH_f, bH_iH, ↓bH_bind, xr_iH, ↓xr_bind, W_iH, WI_t, WI_f, g_isSlot, g_inRange, bI_f, bI_t, iH_pos, iH_neg, WI_pos, WI_neg]
    exact ⟨z, rfl, FrX_r z⟩
  rw [if_pos h1, if_pos h2, if_pos h3]
  obtain ⟨⟨e1, e2⟩, h3', h58'⟩ := c_tb hV hS
  have hTb := isTb_B hb
  have hs3 : s.toNat < 3 := by omega
  have hss : ((s.toNat : Nat) : Int) = s := by omega
  simp (disch := first | assumption | omega) only [↓b_hid, bH_some, ↓hid_W, W_some, I3_a, I3_s, I3_m, I3_n, I3_l, I3_lt, I3_le, I3_e, I3_dv, I3_rm, I3_mx, I3_mn, I3_ab, cI, bI_0, bI_1, rZ_b, up_same, up_row, up_col, xr_some, LQ_r, LQ_l, Int.sub_self, Int.add_zero, Int.zero_add, Int.sub_zero, Int.neg_neg, not_true_eq_false, not_false_eq_true, Int.add_sub_cancel, ↓ite_iH, iH_t, iH_f, bH_iH, ↓bH_bind, xr_iH, ↓xr_bind, W_iH, WI_t, WI_f, aR_34, aR_19, sR_19, gR_0_0, pR_0, gI_0, pI_0, iO_0, gR_0_1, gR_0_3, gR_0_4, gR_0_5, gR_0_6, gR_0_7, gR_0_8, gR_0_9, gR_0_10, gR_0_11, gI_B, pI_B, iO_B, gR_B0, gR_B1, aR_B, gI_Tb, pI_Tb, iO_Tb, gR_Tb0, gR_Tb2, gR_Tb3, aR_Tb, aI_Tb2, aI_Tb3, sI_Tb2, sI_Tb3, cpI_Tb2, cpI_Tb3, g_isSlot, g_inRange, bI_t, g_trAt, e2, iH_pos, iH_neg, WI_pos, WI_neg]
  refine W_bH (W_imp (w_wbf hb hV hS) ?_)
  rintro _ ⟨z1, rfl, a1, a2⟩
  have hS1 : St z1 (p 0) σ := St_congr hV (fun k k0 k1 => a2 k (by omega)) hS
  simp (disch := first | assumption | omega) only [↓b_hid, bH_some, ↓hid_W, W_some, I3_a, I3_s, I3_m, I3_n, I3_l, I3_lt, I3_le, I3_e, I3_dv, I3_rm, I3_mx, I3_mn, I3_ab, cI, bI_0, bI_1, rZ_b, up_same, up_row, up_col, xr_some, LQ_r, LQ_l, Int.sub_self, Int.add_zero, Int.zero_add, Int.sub_zero, Int.neg_neg, not_true_eq_false, not_false_eq_true, Int.add_sub_cancel, ↓ite_iH, iH_t, iH_f, bH_iH, ↓bH_bind, xr_iH, ↓xr_bind, W_iH, WI_t, WI_f]
  generalize hnB : (σ 58).toNat = nB
  have hnB' : σ 58 = (nB : Int) := by omega
  have hA : exA σ s.toNat step = exI (eP σ s.toNat step) nB nB 0 := by unfold exA; rw [hnB]
  rw [hnB', hA]
  unfold f_X11_explain_59
  refine lp_W (fun n st => ∃ (i : Nat) (z' : Nat → Int → Int), st = (0, I3 step, I3 part, p 0 + 12 + 2 * s.toNat, I3 nB, I3 i, M p z' l) ∧ i ≤ nB ∧ n = nB - i ∧ (∀ c, c < 52 ∨ 57 ≤ c → z' c = z1 c) ∧ exI (eP σ s.toNat step) nB nB 0 = exI (eP σ s.toNat step) nB (nB - i) i) (fun n st hst => ?_) ⟨0, z1, rfl, by omega, rfl, fun _ _ => rfl, rfl⟩
  obtain ⟨i, z', rfl, hi, rfl, hF, hE⟩ := hst
  unfold f_X11_explain_59_b
  by_cases hin : i < nB
  · obtain ⟨mi, hmi⟩ : ∃ m, nB - i = m + 1 := ⟨nB - i - 1, by omega⟩
    have hmi2 : nB - (i + 1) = mi := by omega
    rw [hmi, exI] at hE
    simp (disch := first | assumption | omega) only [↓b_hid, bH_some, ↓hid_W, W_some, I3_a, I3_s, I3_m, I3_n, I3_l, I3_lt, I3_le, I3_e, I3_dv, I3_rm, I3_mx, I3_mn, I3_ab, cI, bI_0, bI_1, rZ_b, up_same, up_row, up_col, xr_some, LQ_r, LQ_l, Int.sub_self, Int.add_zero, Int.zero_add, Int.sub_zero, Int.neg_neg, not_true_eq_false, not_false_eq_true, Int.add_sub_cancel, ↓ite_iH, iH_t, iH_f, bH_iH, ↓bH_bind, xr_iH, ↓xr_bind, W_iH, WI_t, WI_f, iH_pos, iH_neg, WI_pos, WI_neg]
    unfold f_X11_explain_69
    refine lp_W (fun n st => ∃ (j : Nat) (z' : Nat → Int → Int), st = (0, I3 step, I3 part, p 0 + 12 + 2 * s.toNat, I3 nB, I3 i, I3 j, M p z' l) ∧ j ≤ nB ∧ n = nB - j ∧ (∀ c, c < 52 ∨ 57 ≤ c → z' c = z1 c) ∧ exJ (eP σ s.toNat step i) nB 0 = exJ (eP σ s.toNat step i) (nB - j) j) (fun n st hst => ?_) ⟨0, z', rfl, by omega, rfl, hF, rfl⟩
    obtain ⟨j, z2, rfl, hj, rfl, hF2, hE2⟩ := hst
    unfold f_X11_explain_69_b
    by_cases hjn : j < nB
    · obtain ⟨mj, hmj⟩ : ∃ m, nB - j = m + 1 := ⟨nB - j - 1, by omega⟩
      have hmj2 : nB - (j + 1) = mj := by omega
      rw [hmj, exJ] at hE2
      have e4 : ((i : Nat) : Int).toNat = i := Int.toNat_natCast i
      have e5 : ((j : Nat) : Int).toNat = j := Int.toNat_natCast j
      have hS2 : St z2 (p 0) σ := St_congr hV (fun k k0 k1 => hF2 k (by omega)) hS1
      simp (disch := first | assumption | omega) only [↓b_hid, bH_some, ↓hid_W, W_some, I3_a, I3_s, I3_m, I3_n, I3_l, I3_lt, I3_le, I3_e, I3_dv, I3_rm, I3_mx, I3_mn, I3_ab, cI, bI_0, bI_1, rZ_b, up_same, up_row, up_col, xr_some, LQ_r, LQ_l, Int.sub_self, Int.add_zero, Int.zero_add, Int.sub_zero, Int.neg_neg, not_true_eq_false, not_false_eq_true, Int.add_sub_cancel, ↓ite_iH, iH_t, iH_f, bH_iH, ↓bH_bind, xr_iH, ↓xr_bind, W_iH, WI_t, WI_f, aR_34, aR_19, sR_19, gR_0_0, pR_0, gI_0, pI_0, iO_0, gR_0_1, gR_0_3, gR_0_4, gR_0_5, gR_0_6, gR_0_7, gR_0_8, gR_0_9, gR_0_10, gR_0_11, g_bfAt, e4, e5, iH_pos, iH_neg, WI_pos, WI_neg]
      refine W_bH (W_imp (w_exO hb hV hS2 hs3 (by omega) (by omega) h2.1 h2.2 (Tr_congr (hF2 _ (by omega)) (hF2 _ (by omega)) (a1 i (by omega))) (Tr_congr (hF2 _ (by omega)) (hF2 _ (by omega)) (a1 j (by omega)))) ?_)
      rintro _ ⟨v, z3, rfl, c1, c2⟩
      have hF3 : ∀ c, c < 52 ∨ 57 ≤ c → z3 c = z1 c := fun c hc => (c1 c hc).trans (hF2 c hc)
      rcases c2 with ⟨rfl, c2⟩ | ⟨c2, c3, c4, c5⟩
      · rw [if_pos c2] at hE2
        simp (disch := first | assumption | omega) only [↓b_hid, bH_some, ↓hid_W, W_some, I3_a, I3_s, I3_m, I3_n, I3_l, I3_lt, I3_le, I3_e, I3_dv, I3_rm, I3_mx, I3_mn, I3_ab, cI, bI_0, bI_1, rZ_b, up_same, up_row, up_col, xr_some, LQ_r, LQ_l, Int.sub_self, Int.add_zero, Int.zero_add, Int.sub_zero, Int.neg_neg, not_true_eq_false, not_false_eq_true, Int.add_sub_cancel, ↓ite_iH, iH_t, iH_f, bH_iH, ↓bH_bind, xr_iH, ↓xr_bind, W_iH, WI_t, WI_f, iH_pos, iH_neg, WI_pos, WI_neg]
        refine ⟨_, ?_, j + 1, z3, by rw [Int.natCast_add]; rfl, by omega, rfl, hF3, ?_⟩
        · omega
        · rw [hmj2, Int.natCast_add]; exact hE2
      · rw [if_neg c2] at hE2
        rw [hE2] at hE
        rw [if_neg (by simp only; omega)] at hE
        rw [hE]
        have hv : exV ((i : Int), (j : Int), exK (eP σ s.toNat step i j) 30 0) part step = if part = 0 then (i : Int) else if part = 1 then (j : Int) else v := by
          unfold exV; rw [if_neg (by simp only; omega), c5]
        rw [hv]
        have hFx : FrX z z3 := fun k hk => (hF3 k (by omega)).trans (a2 k (by omega))
        by_cases p0 : part = 0
        · simp (disch := first | assumption | omega) only [↓b_hid, bH_some, ↓hid_W, W_some, I3_a, I3_s, I3_m, I3_n, I3_l, I3_lt, I3_le, I3_e, I3_dv, I3_rm, I3_mx, I3_mn, I3_ab, cI, bI_0, bI_1, rZ_b, up_same, up_row, up_col, xr_some, LQ_r, LQ_l, Int.sub_self, Int.add_zero, Int.zero_add, Int.sub_zero, Int.neg_neg, not_true_eq_false, not_false_eq_true, Int.add_sub_cancel, ↓ite_iH, iH_t, iH_f, bH_iH, ↓bH_bind, xr_iH, ↓xr_bind, W_iH, WI_t, WI_f, f_X11_explain_104, iH_pos, iH_neg, WI_pos, WI_neg]
          rw [if_pos p0]
          exact ⟨z3, rfl, hFx⟩
        · by_cases p1 : part = 1
          · simp (disch := first | assumption | omega) only [↓b_hid, bH_some, ↓hid_W, W_some, I3_a, I3_s, I3_m, I3_n, I3_l, I3_lt, I3_le, I3_e, I3_dv, I3_rm, I3_mx, I3_mn, I3_ab, cI, bI_0, bI_1, rZ_b, up_same, up_row, up_col, xr_some, LQ_r, LQ_l, Int.sub_self, Int.add_zero, Int.zero_add, Int.sub_zero, Int.neg_neg, not_true_eq_false, not_false_eq_true, Int.add_sub_cancel, ↓ite_iH, iH_t, iH_f, bH_iH, ↓bH_bind, xr_iH, ↓xr_bind, W_iH, WI_t, WI_f, f_X11_explain_104, iH_pos, iH_neg, WI_pos, WI_neg]
            rw [if_neg p0, if_pos p1]
            exact ⟨z3, rfl, hFx⟩
          · simp (disch := first | assumption | omega) only [↓b_hid, bH_some, ↓hid_W, W_some, I3_a, I3_s, I3_m, I3_n, I3_l, I3_lt, I3_le, I3_e, I3_dv, I3_rm, I3_mx, I3_mn, I3_ab, cI, bI_0, bI_1, rZ_b, up_same, up_row, up_col, xr_some, LQ_r, LQ_l, Int.sub_self, Int.add_zero, Int.zero_add, Int.sub_zero, Int.neg_neg, not_true_eq_false, not_false_eq_true, Int.add_sub_cancel, ↓ite_iH, iH_t, iH_f, bH_iH, ↓bH_bind, xr_iH, ↓xr_bind, W_iH, WI_t, WI_f, f_X11_explain_104, iH_pos, iH_neg, WI_pos, WI_neg]
            rw [if_neg p0, if_neg p1]
            exact ⟨z3, rfl, hFx⟩
    · have : j = nB := by omega
      subst this
      rw [Nat.sub_self, exJ] at hE2
      rw [hE2, if_pos rfl] at hE
      simp (disch := first | assumption | omega) only [↓b_hid, bH_some, ↓hid_W, W_some, I3_a, I3_s, I3_m, I3_n, I3_l, I3_lt, I3_le, I3_e, I3_dv, I3_rm, I3_mx, I3_mn, I3_ab, cI, bI_0, bI_1, rZ_b, up_same, up_row, up_col, xr_some, LQ_r, LQ_l, Int.sub_self, Int.add_zero, Int.zero_add, Int.sub_zero, Int.neg_neg, not_true_eq_false, not_false_eq_true, Int.add_sub_cancel, ↓ite_iH, iH_t, iH_f, bH_iH, ↓bH_bind, xr_iH, ↓xr_bind, W_iH, WI_t, WI_f, f_X11_explain_132, iH_pos, iH_neg, WI_pos, WI_neg]
      refine ⟨_, ?_, i + 1, z2, by rw [Int.natCast_add]; rfl, by omega, rfl, hF2, ?_⟩
      · omega
      · rw [hmi2, Int.natCast_add]; exact hE
  · have : i = nB := by omega
    subst this
    rw [Nat.sub_self, exI] at hE
    rw [hE]
    simp (disch := first | assumption | omega) only [↓b_hid, bH_some, ↓hid_W, W_some, I3_a, I3_s, I3_m, I3_n, I3_l, I3_lt, I3_le, I3_e, I3_dv, I3_rm, I3_mx, I3_mn, I3_ab, cI, bI_0, bI_1, rZ_b, up_same, up_row, up_col, xr_some, LQ_r, LQ_l, Int.sub_self, Int.add_zero, Int.zero_add, Int.sub_zero, Int.neg_neg, not_true_eq_false, not_false_eq_true, Int.add_sub_cancel, ↓ite_iH, iH_t, iH_f, bH_iH, ↓bH_bind, xr_iH, ↓xr_bind, W_iH, WI_t, WI_f, f_X11_explain_138, iH_pos, iH_neg, WI_pos, WI_neg]
    exact ⟨z', rfl, fun k hk => (hF k (by omega)).trans (a2 k (by omega))⟩
end
