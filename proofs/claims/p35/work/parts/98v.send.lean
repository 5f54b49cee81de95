/-! A frame behind a train: both sides. -/
def ctn (y x : Dn) : Nat → Dn
  | 0 => y
  | k + 1 => fput (x.2 k) (ctn y x k)
theorem ctn_1 (y x : Dn) : ∀ k : Nat, (ctn y x k).1 = y.1 + k
  | 0 => by rw [ctn]; omega
  | k + 1 => by rw [ctn]; unfold fput; simp only; rw [ctn_1 y x k]; omega
theorem ctn_2 (y x : Dn) (i : Int) : ∀ k : Nat, (ctn y x k).2 i = if y.1 ≤ i ∧ i < y.1 + k then x.2 (i - y.1) else y.2 i
  | 0 => by rw [ctn, if_neg (by omega)]
  | k + 1 => by
    rw [ctn]; unfold fput; simp only; rw [ctn_1 y x k, ctn_2 y x i k]
    by_cases h : i = y.1 + k
    · rw [if_pos h, if_pos (by omega), h, show y.1 + (k : Int) - y.1 = k by omega]
    · rw [if_neg h]
      by_cases h2 : y.1 ≤ i ∧ i < y.1 + k
      · rw [if_pos h2, if_pos (by omega)]
      · rw [if_neg h2, if_neg (by omega)]
def nd (t : Int) : Int := if t ≤ 0 then 0 else 1
def bas (σ : Int → Int) (s : Nat) (sp : Int) : Dn := if σ (83 + s) ≤ 0 then (σ (83 + s), dσ σ s) else fput sp (σ (83 + s), dσ σ s)
def sdT (σ : Int → Int) (s : Nat) (sp : Int) (x : Dn) : Dn := ctn (bas σ s sp) x x.1.toNat
def A_snd (σ : Int → Int) (s : Nat) (x : Dn) : Int := if 0 < σ (83 + s) ∧ σ (83 + s) % 2 = 0 then -2 else if σ (83 + s) + nd (σ (83 + s)) + x.1 ≤ 200 then σ (83 + s) + nd (σ (83 + s)) + x.1 else -3
def G_snd (σ : Int → Int) (s : Nat) (x : Dn) : Prop := ¬(0 < σ (83 + s) ∧ σ (83 + s) % 2 = 0) ∧ σ (83 + s) + nd (σ (83 + s)) + x.1 ≤ 200
theorem bas_1 (σ : Int → Int) (s : Nat) (sp : Int) : (bas σ s sp).1 = σ (83 + s) + nd (σ (83 + s)) := by
  unfold bas nd; split
  · simp only; omega
  · rfl
theorem bas_2 (σ : Int → Int) (s : Nat) (sp i : Int) : (bas σ s sp).2 i = if 0 < σ (83 + s) ∧ i = σ (83 + s) then sp else dσ σ s i := by
  unfold bas; split
  · rw [if_neg (by omega)]
  · unfold fput; simp only
    by_cases h : i = σ (83 + s)
    · rw [if_pos h, if_pos (by omega)]
    · rw [if_neg h, if_neg (by omega)]
theorem sdT_1 {σ : Int → Int} {s : Nat} {sp : Int} {x : Dn} (hx : 0 ≤ x.1) : (sdT σ s sp x).1 = σ (83 + s) + nd (σ (83 + s)) + x.1 := by
  unfold sdT; rw [ctn_1, bas_1]; omega
theorem sdT_2 {σ : Int → Int} {s : Nat} {sp i : Int} {x : Dn} (hx : 0 ≤ x.1) : (sdT σ s sp x).2 i = if σ (83 + s) + nd (σ (83 + s)) ≤ i ∧ i < σ (83 + s) + nd (σ (83 + s)) + x.1 then x.2 (i - (σ (83 + s) + nd (σ (83 + s)))) else if 0 < σ (83 + s) ∧ i = σ (83 + s) then sp else dσ σ s i := by
  unfold sdT; rw [ctn_2, bas_1, bas_2, show ((x.1.toNat : Nat) : Int) = x.1 by omega]
theorem Gd_sdT {σ : Int → Int} {s : Nat} {sp : Int} {x : Dn} (hV : V σ) (hs : s < 3) (hsp : 1 ≤ sp ∧ sp ≤ 60000) (hx : Gd x) (h200 : σ (83 + s) + nd (σ (83 + s)) + x.1 ≤ 200) : Gd (sdT σ s sp x) := by
  have ht := σ_tr hV hs
  have hx0 := hx.1.1
  have hnd : (nd (σ (83 + s)) = 0 ∧ σ (83 + s) ≤ 0) ∨ (nd (σ (83 + s)) = 1 ∧ 0 < σ (83 + s)) := by unfold nd; split <;> omega
  refine ⟨by rw [sdT_1 hx0]; omega, fun i i0 i1 => ?_⟩
  rw [sdT_1 hx0] at i1
  rw [sdT_2 hx0]
  by_cases h1 : σ (83 + s) + nd (σ (83 + s)) ≤ i ∧ i < σ (83 + s) + nd (σ (83 + s)) + x.1
  · rw [if_pos h1]; exact hx.2 _ (by omega) (by omega)
  · rw [if_neg h1]
    by_cases h2 : 0 < σ (83 + s) ∧ i = σ (83 + s)
    · rw [if_pos h2]; exact hsp
    · rw [if_neg h2]; exact ht.2 i i0 (by omega)
theorem CX_0 {p p' : Nat → Nat} {z0 z z' : Nat → Int → Int} {n : Int} {h : Int → Int → Int} {σ σ' : Int → Int} (hF : FrX z0 z) (hX : CX p z n h σ σ' p' z') : CX p z0 n h σ σ' p' z' := by
  obtain ⟨y1, y2, y3, y4, y5, y6⟩ := hX
  exact ⟨y1, y2, y3, fun k hk => (y4 k hk).trans (hF k (by omega)), y5.trans (hF 20 (by omega)), y6.trans (hF 21 (by omega))⟩
section
variable {p : Nat → Nat} {z l : Nat → Int → Int}
theorem w_app66 {t : Nat} {y x : Dn} (ht : isT t) (h32 : t ≠ 32 ∧ t ≠ 33 ∧ t + 1 ≠ 32 ∧ t + 1 ≠ 33) (hx : Trx z 32 x) (hx1 : 0 ≤ x.1 ∧ x.1 ≤ 200) (hy : Trx z t y) (hy0 : 0 ≤ y.1) (hyx : y.1 + x.1 ≤ 200) : WP (f_X11_appendScratch_66 0 t (M p z l)) (fun r => ∃ z', r = (I3 (y.1 + x.1), M p z' l) ∧ Trx z' t (ctn y x x.1.toNat) ∧ Fr t z z') := by
  unfold f_X11_appendScratch_66 f_X11_appendScratch_69
  refine lp_W (fun n st => ∃ (k : Nat) (z' : Nat → Int → Int), st = (0, t, I3 k, M p z' l) ∧ (k : Int) ≤ x.1 ∧ n = x.1.toNat - k ∧ Trx z' t (ctn y x k) ∧ Fr t z z') (fun n st hst => ?_) ⟨0, z, rfl, by omega, rfl, hy, Fr_r t z⟩
  obtain ⟨k, z', rfl, hk, rfl, hT, hF⟩ := hst
  have hx' : Trx z' 32 x := Tr_congr (hF 32 (by omega) (by omega)) (hF 33 (by omega) (by omega)) hx
  have e1 : z' 32 1 = x.1 := hx'.1
  have c1 := ctn_1 y x k
  unfold f_X11_appendScratch_69_b
  by_cases hkx : (k : Int) < x.1
  · have ga := g_at (p := p) (z := z') (l := l) (t := 32) (i := k) isT_32 (by omega) (by omega) (by omega) (by omega)
    rw [tat_in (by omega) (by omega), hx'.2 k (by omega) hkx] at ga
    have i32 : ∀ {α : Type} (e : Option α), isO (M p z' l) 10 32 e = e := fun e => iO_T isT_32 e
    have g32 : gI (M p z' l) 10 32 1 = some (I3 x.1) := by rw [← e1]; exact gI_T isT_32 1
    simp (disch := first | assumption | omega) only [↓b_hid, bH_some, ↓hid_W, W_some, I3_a, I3_s, I3_m, I3_n, I3_l, I3_lt, I3_le, I3_e, I3_dv, I3_rm, I3_mx, I3_mn, I3_ab, cI, bI_0, bI_1, rZ_b, up_same, up_row, up_col, xr_some, LQ_r, LQ_l, Int.sub_self, Int.add_zero, Int.zero_add, Int.sub_zero, Int.neg_neg, not_true_eq_false, not_false_eq_true, Int.add_sub_cancel, ↓ite_iH, iH_t, iH_f, bH_iH, ↓bH_bind, xr_iH, ↓xr_bind, W_iH, WI_t, WI_f, aR_34, aR_19, sR_19, gR_0_0, pR_0, gI_0, pI_0, iO_0, gR_0_1, gR_0_3, gR_0_4, gR_0_5, gR_0_6, gR_0_7, gR_0_8, gR_0_9, gR_0_10, gR_0_11, gR_0_5, i32, g32, ga, iO_T ht, iH_pos, iH_neg, WI_pos, WI_neg]
    refine W_bH (W_imp (w_put ht hT (by omega) (by omega)) ?_)
    rintro _ ⟨z2, rfl, b1, b2⟩
    simp (disch := first | assumption | omega) only [↓b_hid, bH_some, ↓hid_W, W_some, I3_a, I3_s, I3_m, I3_n, I3_l, I3_lt, I3_le, I3_e, I3_dv, I3_rm, I3_mx, I3_mn, I3_ab, cI, bI_0, bI_1, rZ_b, up_same, up_row, up_col, xr_some, LQ_r, LQ_l, Int.sub_self, Int.add_zero, Int.zero_add, Int.sub_zero, Int.neg_neg, not_true_eq_false, not_false_eq_true, Int.add_sub_cancel, ↓ite_iH, iH_t, iH_f, bH_iH, ↓bH_bind, xr_iH, ↓xr_bind, W_iH, WI_t, WI_f]
    refine ⟨_, ?_, k + 1, z2, by rw [Int.natCast_add]; rfl, by omega, rfl, b1, Fr_t hF b2⟩
    omega
  · have hkx' : (k : Int) = x.1 := by omega
    have g32 : gI (M p z' l) 10 32 1 = some (I3 x.1) := by rw [← e1]; exact gI_T isT_32 1
    have gt : gI (M p z' l) 10 t 1 = some (I3 (y.1 + x.1)) := by
      have : z' t 1 = y.1 + x.1 := by rw [hT.1, c1]; omega
      rw [← this]; exact gI_T ht 1
    simp (disch := first | assumption | omega) only [↓b_hid, bH_some, ↓hid_W, W_some, I3_a, I3_s, I3_m, I3_n, I3_l, I3_lt, I3_le, I3_e, I3_dv, I3_rm, I3_mx, I3_mn, I3_ab, cI, bI_0, bI_1, rZ_b, up_same, up_row, up_col, xr_some, LQ_r, LQ_l, Int.sub_self, Int.add_zero, Int.zero_add, Int.sub_zero, Int.neg_neg, not_true_eq_false, not_false_eq_true, Int.add_sub_cancel, ↓ite_iH, iH_t, iH_f, bH_iH, ↓bH_bind, xr_iH, ↓xr_bind, W_iH, WI_t, WI_f, aR_34, aR_19, sR_19, gR_0_0, pR_0, gI_0, pI_0, iO_0, gR_0_1, gR_0_3, gR_0_4, gR_0_5, gR_0_6, gR_0_7, gR_0_8, gR_0_9, gR_0_10, gR_0_11, gR_0_5, g32, f_X11_appendScratch_100, gt, iH_pos, iH_neg, WI_pos, WI_neg]
    refine ⟨z', rfl, ?_, hF⟩
    rw [show x.1.toNat = k by omega]; exact hT
set_option maxHeartbeats 4000000 in
theorem w_appS {s : Nat} {sp n : Int} {σ : Int → Int} {h : Int → Int → Int} {x : Dn} (hs : s < 3) (hsp : 1 ≤ sp ∧ sp ≤ 60000) (hp : PB p) (hV : V σ) (hS : St z (p 0) σ) (h0 : 0 ≤ n) (h6 : n ≤ 6) (hH : Hs z p n h) (hx : Trx z 32 x) (hx1 : 3 ≤ x.1 ∧ x.1 ≤ 35) (hD : Gd x) : WP (f_X11_appendScratch 0 (p 0 + 12 + 2 * s) (I3 sp) (M p z l)) (fun r => ∃ p' z', r = (I3 (A_snd σ s x), M p' z' l) ∧ (G_snd σ s x ∧ CX p z n h σ (tσ σ s (sdT σ s sp x)) p' z' ∨ ¬G_snd σ s x ∧ p' = p ∧ z' = z)) := by
  have hb := hp.1 0 (by omega)
  have hrB := isB_r hb
  have ht := isT_B hb hs
  have hv := σ_tr hV hs
  have hTr := hS.2.2 s hs
  generalize hte : p 0 + 12 + 2 * s = t at *
  have e1 : z t 1 = σ (83 + s) := hTr.1
  have hnd : (nd (σ (83 + s)) = 0 ∧ σ (83 + s) ≤ 0) ∨ (nd (σ (83 + s)) = 1 ∧ 0 < σ (83 + s)) := by unfold nd; split <;> omega
  have g32 : gI (M p z l) 10 32 1 = some (I3 x.1) := by rw [← hx.1]; exact gI_T isT_32 1
  have gt : gI (M p z l) 10 t 1 = some (I3 (σ (83 + s))) := by rw [← e1]; exact gI_T ht 1
  have ge := g_ewm (p := p) (z := z) (l := l) ht (by omega) (by omega)
  rw [e1] at ge
  by_cases h1 : 0 < σ (83 + s) ∧ σ (83 + s) % 2 = 0
  · unfold f_X11_appendScratch
    have hA : A_snd σ s x = -2 := by unfold A_snd; rw [if_pos h1]
    have hG : ¬G_snd σ s x := fun hg => hg.1 h1
    rw [hA]
    rw [bI_f (by omega)] at ge
    simp (disch := first | assumption | omega) only [↓b_hid, bH_some, ↓hid_W, W_some, I3_a, I3_s, I3_m, I3_n, I3_l, I3_lt, I3_le, I3_e, I3_dv, I3_rm, I3_mx, I3_mn, I3_ab, cI, bI_0, bI_1, rZ_b, up_same, up_row, up_col, xr_some, LQ_r, LQ_l, Int.sub_self, Int.add_zero, Int.zero_add, Int.sub_zero, Int.neg_neg, not_true_eq_false, not_false_eq_true, Int.add_sub_cancel, ↓ite_iH, iH_t, iH_f, bH_iH, ↓bH_bind, xr_iH, ↓xr_bind, W_iH, WI_t, WI_f, gt, iO_T ht, ge, iH_pos, iH_neg, WI_pos, WI_neg]
    exact ⟨p, z, rfl, Or.inr ⟨hG, rfl, rfl⟩⟩
  by_cases h2 : σ (83 + s) + nd (σ (83 + s)) + x.1 ≤ 200
  case neg =>
    have hA : A_snd σ s x = -3 := by unfold A_snd; rw [if_neg h1, if_neg h2]
    have hG : ¬G_snd σ s x := fun hg => h2 hg.2
    rw [hA]
    have f29 : f_X11_appendScratch_29 0 t (I3 sp) (I3 (nd (σ (83 + s)))) (M p z l) = some (I3 (-3), M p z l) := by
      apply W_eq
      unfold f_X11_appendScratch_29
      simp (disch := first | assumption | omega) only [↓b_hid, bH_some, ↓hid_W, W_some, I3_a, I3_s, I3_m, I3_n, I3_l, I3_lt, I3_le, I3_e, I3_dv, I3_rm, I3_mx, I3_mn, I3_ab, cI, bI_0, bI_1, rZ_b, up_same, up_row, up_col, xr_some, LQ_r, LQ_l, Int.sub_self, Int.add_zero, Int.zero_add, Int.sub_zero, Int.neg_neg, not_true_eq_false, not_false_eq_true, Int.add_sub_cancel, ↓ite_iH, iH_t, iH_f, bH_iH, ↓bH_bind, xr_iH, ↓xr_bind, W_iH, WI_t, WI_f, aR_34, aR_19, sR_19, gR_0_0, pR_0, gI_0, pI_0, iO_0, gR_0_1, gR_0_3, gR_0_4, gR_0_5, gR_0_6, gR_0_7, gR_0_8, gR_0_9, gR_0_10, gR_0_11, gR_0_5, gt, g32, iH_pos, iH_neg, WI_pos, WI_neg]
    unfold f_X11_appendScratch f_X11_appendScratch_17
    rcases hnd with ⟨q1, q2⟩ | ⟨q1, q2⟩
    · rw [q1] at f29
      simp (disch := first | assumption | omega) only [↓b_hid, bH_some, ↓hid_W, W_some, I3_a, I3_s, I3_m, I3_n, I3_l, I3_lt, I3_le, I3_e, I3_dv, I3_rm, I3_mx, I3_mn, I3_ab, cI, bI_0, bI_1, rZ_b, up_same, up_row, up_col, xr_some, LQ_r, LQ_l, Int.sub_self, Int.add_zero, Int.zero_add, Int.sub_zero, Int.neg_neg, not_true_eq_false, not_false_eq_true, Int.add_sub_cancel, ↓ite_iH, iH_t, iH_f, bH_iH, ↓bH_bind, xr_iH, ↓xr_bind, W_iH, WI_t, WI_f, gt, f29, iH_pos, iH_neg, WI_pos, WI_neg]
      exact ⟨p, z, rfl, Or.inr ⟨hG, rfl, rfl⟩⟩
    · rw [q1] at f29
      rw [bI_t (by omega)] at ge
      simp (disch := first | assumption | omega) only [↓b_hid, bH_some, ↓hid_W, W_some, I3_a, I3_s, I3_m, I3_n, I3_l, I3_lt, I3_le, I3_e, I3_dv, I3_rm, I3_mx, I3_mn, I3_ab, cI, bI_0, bI_1, rZ_b, up_same, up_row, up_col, xr_some, LQ_r, LQ_l, Int.sub_self, Int.add_zero, Int.zero_add, Int.sub_zero, Int.neg_neg, not_true_eq_false, not_false_eq_true, Int.add_sub_cancel, ↓ite_iH, iH_t, iH_f, bH_iH, ↓bH_bind, xr_iH, ↓xr_bind, W_iH, WI_t, WI_f, gt, iO_T ht, ge, f29, iH_pos, iH_neg, WI_pos, WI_neg]
      exact ⟨p, z, rfl, Or.inr ⟨hG, rfl, rfl⟩⟩
  have hA : A_snd σ s x = σ (83 + s) + nd (σ (83 + s)) + x.1 := by unfold A_snd; rw [if_neg h1, if_pos h2]
  have hG : G_snd σ s x := ⟨h1, h2⟩
  rw [hA]
  have f29 : WP (f_X11_appendScratch_29 0 t (I3 sp) (I3 (nd (σ (83 + s)))) (M p z l)) (fun r => ∃ p' z', r = (I3 (σ (83 + s) + nd (σ (83 + s)) + x.1), M p' z' l) ∧ (G_snd σ s x ∧ CX p z n h σ (tσ σ s (sdT σ s sp x)) p' z' ∨ ¬G_snd σ s x ∧ p' = p ∧ z' = z)) := by
    unfold f_X11_appendScratch_29
    simp (disch := first | assumption | omega) only [↓b_hid, bH_some, ↓hid_W, W_some, I3_a, I3_s, I3_m, I3_n, I3_l, I3_lt, I3_le, I3_e, I3_dv, I3_rm, I3_mx, I3_mn, I3_ab, cI, bI_0, bI_1, rZ_b, up_same, up_row, up_col, xr_some, LQ_r, LQ_l, Int.sub_self, Int.add_zero, Int.zero_add, Int.sub_zero, Int.neg_neg, not_true_eq_false, not_false_eq_true, Int.add_sub_cancel, ↓ite_iH, iH_t, iH_f, bH_iH, ↓bH_bind, xr_iH, ↓xr_bind, W_iH, WI_t, WI_f, aR_34, aR_19, sR_19, gR_0_0, pR_0, gI_0, pI_0, iO_0, gR_0_1, gR_0_3, gR_0_4, gR_0_5, gR_0_6, gR_0_7, gR_0_8, gR_0_9, gR_0_10, gR_0_11, gR_0_5, gt, g32, iH_pos, iH_neg, WI_pos, WI_neg]
    refine W_bH (W_imp (c_save hp hV hS h0 h6 hH) ?_)
    rintro _ ⟨p', z1, rfl, a0, a1, a2⟩
    have hST := a1.2.1
    rw [a0] at hST
    have hTr1 : Trx z1 t (σ (83 + s), dσ σ s) := by have := hST.2.2 s hs; rw [hte] at this; exact this
    have hx32 : Trx z1 32 x := Tr_congr (a2 32 (by decide) (by decide)) (a2 33 (by decide) (by decide)) hx
    have fin : ∀ z2 : Nat → Int → Int, Trx z2 t (bas σ s sp) → Fr t z1 z2 → WP (f_X11_appendScratch_66 0 t (M p' z2 l)) (fun r => ∃ p' z', r = (I3 (σ (83 + s) + nd (σ (83 + s)) + x.1), M p' z' l) ∧ (G_snd σ s x ∧ CX p z n h σ (tσ σ s (sdT σ s sp x)) p' z' ∨ ¬G_snd σ s x ∧ p' = p ∧ z' = z)) := by
      intro z2 y1 y2
      have b1 := bas_1 σ s sp
      refine W_imp (w_app66 (x := x) ht (by omega) (Tr_congr (y2 32 (by omega) (by omega)) (y2 33 (by omega) (by omega)) hx32) hD.1 y1 (by omega) (by omega)) ?_
      rintro _ ⟨z3, rfl, c1, c2⟩
      refine ⟨p', z3, by rw [b1], Or.inl ⟨hG, CX_mod ⟨h0, h6⟩ a1 (fun k hk _ => ?_) ?_⟩⟩
      · rw [a0] at hk
        exact (Fr_t y2 c2) k (by omega) (by omega)
      · rw [a0]
        have hg := Gd_sdT hV hs hsp hD h2
        exact St_t hs hg.1 hV hST (fun k k0 k1 => (Fr_t y2 c2) k (by omega) (by omega)) (by rw [hte]; exact c1)
    rcases hnd with ⟨q1, q2⟩ | ⟨q1, q2⟩
    · have hbs : bas σ s sp = (σ (83 + s), dσ σ s) := by unfold bas; rw [if_pos q2]
      have := fin z1 (by rw [hbs]; exact hTr1) (Fr_r t z1)
      rw [q1] at this ⊢
      simp only [Int.add_zero] at this
      simp (disch := first | assumption | omega) only [↓b_hid, bH_some, ↓hid_W, W_some, I3_a, I3_s, I3_m, I3_n, I3_l, I3_lt, I3_le, I3_e, I3_dv, I3_rm, I3_mx, I3_mn, I3_ab, cI, bI_0, bI_1, rZ_b, up_same, up_row, up_col, xr_some, LQ_r, LQ_l, Int.sub_self, Int.add_zero, Int.zero_add, Int.sub_zero, Int.neg_neg, not_true_eq_false, not_false_eq_true, Int.add_sub_cancel, ↓ite_iH, iH_t, iH_f, bH_iH, ↓bH_bind, xr_iH, ↓xr_bind, W_iH, WI_t, WI_f, iH_pos, iH_neg, WI_pos, WI_neg]
      exact this
    · have hbs : bas σ s sp = fput sp (σ (83 + s), dσ σ s) := by unfold bas; rw [if_neg (by omega)]
      rw [q1] at fin ⊢
      simp (disch := first | assumption | omega) only [↓b_hid, bH_some, ↓hid_W, W_some, I3_a, I3_s, I3_m, I3_n, I3_l, I3_lt, I3_le, I3_e, I3_dv, I3_rm, I3_mx, I3_mn, I3_ab, cI, bI_0, bI_1, rZ_b, up_same, up_row, up_col, xr_some, LQ_r, LQ_l, Int.sub_self, Int.add_zero, Int.zero_add, Int.sub_zero, Int.neg_neg, not_true_eq_false, not_false_eq_true, Int.add_sub_cancel, ↓ite_iH, iH_t, iH_f, bH_iH, ↓bH_bind, xr_iH, ↓xr_bind, W_iH, WI_t, WI_f, iO_T ht, iH_pos, iH_neg, WI_pos, WI_neg]
      refine W_bH (W_imp (w_put ht hTr1 (by simp only; omega) (by simp only; omega)) ?_)
      rintro _ ⟨z2, rfl, b1, b2⟩
      exact fin z2 (by rw [hbs]; exact b1) b2
  unfold f_X11_appendScratch f_X11_appendScratch_17
  rcases hnd with ⟨q1, q2⟩ | ⟨q1, q2⟩
  · rw [q1] at f29 ⊢
    simp only [Int.add_zero] at f29
    simp (disch := first | assumption | omega) only [↓b_hid, bH_some, ↓hid_W, W_some, I3_a, I3_s, I3_m, I3_n, I3_l, I3_lt, I3_le, I3_e, I3_dv, I3_rm, I3_mx, I3_mn, I3_ab, cI, bI_0, bI_1, rZ_b, up_same, up_row, up_col, xr_some, LQ_r, LQ_l, Int.sub_self, Int.add_zero, Int.zero_add, Int.sub_zero, Int.neg_neg, not_true_eq_false, not_false_eq_true, Int.add_sub_cancel, ↓ite_iH, iH_t, iH_f, bH_iH, ↓bH_bind, xr_iH, ↓xr_bind, W_iH, WI_t, WI_f, gt, iH_pos, iH_neg, WI_pos, WI_neg]
    exact f29
  · rw [q1] at f29 ⊢
    rw [bI_t (by omega)] at ge
    simp (disch := first | assumption | omega) only [↓b_hid, bH_some, ↓hid_W, W_some, I3_a, I3_s, I3_m, I3_n, I3_l, I3_lt, I3_le, I3_e, I3_dv, I3_rm, I3_mx, I3_mn, I3_ab, cI, bI_0, bI_1, rZ_b, up_same, up_row, up_col, xr_some, LQ_r, LQ_l, Int.sub_self, Int.add_zero, Int.zero_add, Int.sub_zero, Int.neg_neg, not_true_eq_false, not_false_eq_true, Int.add_sub_cancel, ↓ite_iH, iH_t, iH_f, bH_iH, ↓bH_bind, xr_iH, ↓xr_bind, W_iH, WI_t, WI_f, gt, iO_T ht, ge, iH_pos, iH_neg, WI_pos, WI_neg]
    exact f29
end
