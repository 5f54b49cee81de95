/-! ghosts(). -/
noncomputable def gDt (σ : Int → Int) (D : List Int) (k : Nat) : Int × Int := dcd σ (lf D) D.length (σ 2) k
def gLn (σ : Int → Int) (D : List Int) : Nat := (FS (lf D) D.length (σ 0)).length
noncomputable def gSh (σ : Int → Int) (D : List Int) (k : Nat) : Int := fBσ σ (gDt σ D k).1 (idn (Fσ σ (gDt σ D k).1.toNat) (gDt σ D k).2)
def ghk (σ : Int → Int) (D : List Int) (i j : Int) (k : Nat) : Prop := (gDt σ D k).2 ≠ -9 ∧ gSh σ D k ≠ -9 ∧ gSh σ D k ≠ i ∧ gSh σ D k ≠ j
def gh (σ : Int → Int) (o i j : Int) : Prop := ∃ k : Nat, k < gLn σ (colD (bσ σ i) (bσ σ j) o) ∧ ghk σ (colD (bσ σ i) (bσ σ j) o) i j k
noncomputable def cJ (P : Int → Prop) (i : Int) : Nat → Int
  | 0 => 0
  | m + 1 => cJ P i m + cif (P (i + m)) 1 0
noncomputable def cIg (P : Int → Int → Prop) (nB : Nat) : Nat → Int
  | 0 => 0
  | i + 1 => cIg P nB i + cJ (P i) i (nB - i)
theorem cJ_r (P : Int → Prop) (i : Int) : ∀ m : Nat, 0 ≤ cJ P i m ∧ cJ P i m ≤ m
  | 0 => by simp [cJ]
  | m + 1 => by
    have := cJ_r P i m
    rw [cJ]
    by_cases h : P (i + m)
    · rw [cif_t h]; omega
    · rw [cif_f h]; omega
theorem cIg_r (P : Int → Int → Prop) (nB : Nat) : ∀ i : Nat, 0 ≤ cIg P nB i ∧ cIg P nB i ≤ nB * i
  | 0 => by simp [cIg]
  | i + 1 => by
    have h1 := cIg_r P nB i
    have h2 := cJ_r (P i) i (nB - i)
    have h3 : (nB : Int) * ((i + 1 : Nat) : Int) = nB * i + nB := by rw [Int.natCast_add, Int.mul_add]; simp
    rw [cIg, h3]; omega
noncomputable def A_ghosts (σ : Int → Int) (o : Int) : Int := if 0 ≤ o ∧ o ≤ 60000 then cIg (gh σ o) (σ 58).toNat (σ 58).toNat else -1
theorem bD_r {σ : Int → Int} (hV : V σ) {i j o : Int} (hi : 0 ≤ i) (hi' : i < σ 58) (hj : 0 ≤ j) (hj' : j < σ 58) (ho : 0 ≤ o ∧ o ≤ 60000) : (colD (bσ σ i) (bσ σ j) o).length ≤ 72 ∧ ∀ v ∈ colD (bσ σ i) (bσ σ j) o, 1 ≤ v ∧ v ≤ 13000000 := by
  have ri := bσ_r hV hi hi'
  have rj := bσ_r hV hj hj'
  have hlen := colD_len (x := bσ σ i) (y := bσ σ j) o
  refine ⟨?_, colD_g (bσ_g hV hi hi') (bσ_g hV hj hj') ho⟩
  rw [if_pos (by omega), if_pos (by omega)] at hlen; omega
theorem gDt_r {σ : Int → Int} {D : List Int} {k : Nat} (hV : V σ) : (gDt σ D k).1 = -9 ∧ (gDt σ D k).2 = -9 ∨ (0 ≤ (gDt σ D k).1 ∧ (gDt σ D k).1 < σ 3) ∧ ((gDt σ D k).2 = -9 ∨ 0 ≤ (gDt σ D k).2 ∧ (gDt σ D k).2 ≤ 1000000) := by
  have h := dcd_r (d := lf D) (n := D.length) (tol := σ 2) k hV
  have h3 := hV.2.2.2.1
  unfold gDt
  rcases h with h | ⟨j, h1, h2, h4⟩
  · rw [h]; exact Or.inl ⟨rfl, rfl⟩
  · refine Or.inr ⟨?_, h4⟩
    have := V_n hV; omega
section
variable {p : Nat → Nat} {z l : Nat → Int → Int}
set_option maxHeartbeats 4000000 in
theorem w_shows {σ : Int → Int} {i j : Nat} {o : Int} (hb : isB (p 0)) (hV : V σ) (hS : St z (p 0) σ) (hi : (i : Int) < σ 58) (hj : (j : Int) < σ 58) (ho : 0 ≤ o ∧ o ≤ 60000) (hx : Trx z (165 + 2 * i) (bσ σ i)) (hy : Trx z (165 + 2 * j) (bσ σ j)) : WP (f_X11_showsGhost 0 (I3 i) (I3 j) (I3 o) (M p z l)) (fun r => ∃ v z' l', r = (I3 v, M p z' l') ∧ (∀ k, k < 32 ∨ 57 ≤ k → z' k = z k) ∧ ((v = 1 ∧ gh σ o i j) ∨ (v = 0 ∧ ¬gh σ o i j))) := by
  have hr := isB_r hb
  have h58 := hV.2.2.2.2.1
  have gi := bσ_g hV (i := i) (by omega) hi
  have gj := bσ_g hV (i := j) (by omega) hj
  have htol := hV.2.2.1
  have hgap := hV.1
  have h3 := hV.2.2.2.1
  obtain ⟨hDl, hDv⟩ := bD_r hV (i := i) (j := j) (by omega) hi (by omega) hj ho
  have e4 : ((i : Nat) : Int).toNat = i := Int.toNat_natCast i
  have e5 : ((j : Nat) : Int).toNat = j := Int.toNat_natCast j
  unfold f_X11_showsGhost gh
  simp (disch := first | assumption | omega) only [↓b_hid, bH_some, ↓hid_W, W_some, I3_a, I3_s, I3_m, I3_n, I3_l, I3_lt, I3_le, I3_e, I3_dv, I3_rm, I3_mx, I3_mn, I3_ab, cI, bI_0, bI_1, rZ_b, up_same, up_row, up_col, xr_some, LQ_r, LQ_l, Int.sub_self, Int.add_zero, Int.zero_add, Int.sub_zero, Int.neg_neg, not_true_eq_false, not_false_eq_true, Int.add_sub_cancel, ↓ite_iH, iH_t, iH_f, bH_iH, ↓bH_bind, xr_iH, ↓xr_bind, W_iH, WI_t, WI_f, aR_34, aR_19, sR_19, gR_0_0, pR_0, gI_0, pI_0, iO_0, gR_0_1, gR_0_3, gR_0_4, gR_0_5, gR_0_6, gR_0_7, gR_0_8, gR_0_9, gR_0_10, gR_0_11, gR_0_11, iO_0, iO_52, g_bfAt, e4, e5]
  refine W_bH (W_imp (w_lay (isT_bf (by omega)) (isT_bf (by omega)) (by omega) (by omega) hx hy gi.1 gj.1) ?_)
  rintro _ ⟨z1, rfl, a1, a2, a3⟩
  simp (disch := first | assumption | omega) only [↓b_hid, bH_some, ↓hid_W, W_some, I3_a, I3_s, I3_m, I3_n, I3_l, I3_lt, I3_le, I3_e, I3_dv, I3_rm, I3_mx, I3_mn, I3_ab, cI, bI_0, bI_1, rZ_b, up_same, up_row, up_col, xr_some, LQ_r, LQ_l, Int.sub_self, Int.add_zero, Int.zero_add, Int.sub_zero, Int.neg_neg, not_true_eq_false, not_false_eq_true, Int.add_sub_cancel, ↓ite_iH, iH_t, iH_f, bH_iH, ↓bH_bind, xr_iH, ↓xr_bind, W_iH, WI_t, WI_f, aR_34, aR_19, sR_19, gR_0_0, pR_0, gI_0, pI_0, iO_0, gR_0_1, gR_0_3, gR_0_4, gR_0_5, gR_0_6, gR_0_7, gR_0_8, gR_0_9, gR_0_10, gR_0_11, gR_0_11, iO_52]
  refine W_bH (W_imp (w_begin gi gj ho a1 a2) ?_)
  rintro _ ⟨z2, rfl, b1, b2⟩
  generalize hDe : colD (bσ σ i) (bσ σ j) o = D at *
  simp (disch := first | assumption | omega) only [↓b_hid, bH_some, ↓hid_W, W_some, I3_a, I3_s, I3_m, I3_n, I3_l, I3_lt, I3_le, I3_e, I3_dv, I3_rm, I3_mx, I3_mn, I3_ab, cI, bI_0, bI_1, rZ_b, up_same, up_row, up_col, xr_some, LQ_r, LQ_l, Int.sub_self, Int.add_zero, Int.zero_add, Int.sub_zero, Int.neg_neg, not_true_eq_false, not_false_eq_true, Int.add_sub_cancel, ↓ite_iH, iH_t, iH_f, bH_iH, ↓bH_bind, xr_iH, ↓xr_bind, W_iH, WI_t, WI_f, aR_34, aR_19, sR_19, gR_0_0, pR_0, gI_0, pI_0, iO_0, gR_0_1, gR_0_3, gR_0_4, gR_0_5, gR_0_6, gR_0_7, gR_0_8, gR_0_9, gR_0_10, gR_0_11, gR_0_11, gR_0_5, iO_52]
  refine W_bH (W_imp (w_writeTo gi gj ho b2) ?_)
  rintro _ ⟨v, z3, rfl, c1, c2⟩
  have c2 : Trx z3 32 (D.length, lf D) := by
    rcases c2 with ⟨_, _, h⟩ | ⟨h, _⟩
    · exact h
    · omega
  have hF3 : ∀ k, k < 32 ∨ 57 ≤ k → z3 k = z k := fun k hk => (c1 k (by omega) (by omega) (by omega)).trans ((b1 k (by omega)).trans (a3 k (by omega)))
  have hS3 : St z3 (p 0) σ := St_congr hV (fun k k0 k1 => hF3 k (by omega)) hS
  have eg : z3 (p 0) 2 = σ 0 := hS3.1.1
  simp (disch := first | assumption | omega) only [↓b_hid, bH_some, ↓hid_W, W_some, I3_a, I3_s, I3_m, I3_n, I3_l, I3_lt, I3_le, I3_e, I3_dv, I3_rm, I3_mx, I3_mn, I3_ab, cI, bI_0, bI_1, rZ_b, up_same, up_row, up_col, xr_some, LQ_r, LQ_l, Int.sub_self, Int.add_zero, Int.zero_add, Int.sub_zero, Int.neg_neg, not_true_eq_false, not_false_eq_true, Int.add_sub_cancel, ↓ite_iH, iH_t, iH_f, bH_iH, ↓bH_bind, xr_iH, ↓xr_bind, W_iH, WI_t, WI_f, aR_34, aR_19, sR_19, gR_0_0, pR_0, gI_0, pI_0, iO_0, gR_0_1, gR_0_3, gR_0_4, gR_0_5, gR_0_6, gR_0_7, gR_0_8, gR_0_9, gR_0_10, gR_0_11, gI_B, pI_B, iO_B, gR_B0, gR_B1, aR_B, gR_0_7, gR_0_5, eg, iO_35]
  refine W_bH (W_imp (w_split (n := D.length) (d := lf D) (gap := σ 0) isT_32 (by decide) (by decide) c2 (by omega) (by omega) (by omega) (by omega) (fun k k0 k1 => by have := hDv _ (lf_mem k0 k1); omega)) ?_)
  rintro _ ⟨z4, rfl, d1, d2⟩
  have hF4 : ∀ k, k < 32 ∨ 57 ≤ k → z4 k = z k := fun k hk => (d2 k (by omega)).trans (hF3 k hk)
  simp (disch := first | assumption | omega) only [↓b_hid, bH_some, ↓hid_W, W_some, I3_a, I3_s, I3_m, I3_n, I3_l, I3_lt, I3_le, I3_e, I3_dv, I3_rm, I3_mx, I3_mn, I3_ab, cI, bI_0, bI_1, rZ_b, up_same, up_row, up_col, xr_some, LQ_r, LQ_l, Int.sub_self, Int.add_zero, Int.zero_add, Int.sub_zero, Int.neg_neg, not_true_eq_false, not_false_eq_true, Int.add_sub_cancel, ↓ite_iH, iH_t, iH_f, bH_iH, ↓bH_bind, xr_iH, ↓xr_bind, W_iH, WI_t, WI_f]
  unfold f_X11_showsGhost_58
  refine lp_W (fun n st => ∃ (k : Nat) (z' l' : Nat → Int → Int), st = (0, I3 i, I3 j, I3 k, M p z' l') ∧ k ≤ gLn σ D ∧ n = gLn σ D - k ∧ (∀ c, c ≠ 40 → c ≠ 41 → z' c = z4 c) ∧ ∀ k' : Nat, k' < k → ¬ghk σ D i j k') (fun n st hst => ?_) ⟨0, z4, l, rfl, by omega, rfl, fun _ _ _ => rfl, fun k' hk' => by omega⟩
  obtain ⟨k, z5, l5, rfl, hk, rfl, hF, hN⟩ := hst
  have hS5 : St z5 (p 0) σ := St_congr hV (fun c c0 c1 => (hF c (by omega) (by omega)).trans (hF4 c (by omega))) hS
  have hFs5 : Fs z5 D.length (lf D) (σ 0) := by
    obtain ⟨x1, x2, x3⟩ := d1
    refine ⟨Tr_congr (hF 38 (by decide) (by decide)) (hF 39 (by decide) (by decide)) x1, ?_, ?_⟩
    · rw [hF 35 (by decide) (by decide)]; exact x2
    · rw [hF 36 (by decide) (by decide), hF 37 (by decide) (by decide)]; exact x3
  have hlen := FS_len (d := lf D) (n := D.length) (gap := σ 0) (by omega) (by omega)
  have hgl : gLn σ D ≤ 100 := hlen
  have e2 : z5 35 2 = gLn σ D := hFs5.2.1
  have hF5z : ∀ c, c < 32 ∨ 57 ≤ c → z5 c = z c := fun c hc => (hF c (by omega) (by omega)).trans (hF4 c hc)
  unfold f_X11_showsGhost_58_b
  by_cases hkn : k < gLn σ D
  · have etol : z5 (p 0) 4 = σ 2 := hS5.1.2.2
    simp (disch := first | assumption | omega) only [↓b_hid, bH_some, ↓hid_W, W_some, I3_a, I3_s, I3_m, I3_n, I3_l, I3_lt, I3_le, I3_e, I3_dv, I3_rm, I3_mx, I3_mn, I3_ab, cI, bI_0, bI_1, rZ_b, up_same, up_row, up_col, xr_some, LQ_r, LQ_l, Int.sub_self, Int.add_zero, Int.zero_add, Int.sub_zero, Int.neg_neg, not_true_eq_false, not_false_eq_true, Int.add_sub_cancel, ↓ite_iH, iH_t, iH_f, bH_iH, ↓bH_bind, xr_iH, ↓xr_bind, W_iH, WI_t, WI_f, aR_34, aR_19, sR_19, gR_0_0, pR_0, gI_0, pI_0, iO_0, gR_0_1, gR_0_3, gR_0_4, gR_0_5, gR_0_6, gR_0_7, gR_0_8, gR_0_9, gR_0_10, gR_0_11, gI_B, pI_B, iO_B, gR_B0, gR_B1, aR_B, gI_35, pI_35, iO_35, gR_35_0, aI_36, sI_36, gR_35_1, aI_37, sI_37, gR_35_3, gR_0_7, gR_0_8, e2, etol, iO_40, iH_pos, iH_neg, WI_pos, WI_neg]
    refine W_bH (W_imp (c_decode (i := k) (tol := σ 2) hb hV hS5 hFs5 (by omega) (by omega) hkn htol (fun c c0 c1 => by have := hDv _ (lf_mem c0 c1); omega)) ?_)
    rintro _ ⟨z6, l6, rfl, g1, g2, g3, g4⟩
    have g1 : z6 40 0 = (gDt σ D k).1 := g1
    have g2 : z6 40 1 = (gDt σ D k).2 := g2
    have hr2 := gDt_r (D := D) (k := k) hV
    have hS6 : St z6 (p 0) σ := St_congr hV (fun c c0 c1 => g3 c (by omega) (by omega)) hS5
    have hnext : ¬ghk σ D i j k → WP (f_X11_showsGhost_154 0 (I3 i) (I3 j) (I3 k) (M p z6 l6)) (LQ (fun r => ∃ v z' l', r = (I3 v, M p z' l') ∧ (∀ k, k < 32 ∨ 57 ≤ k → z' k = z k) ∧ ((v = 1 ∧ ∃ k : Nat, k < gLn σ D ∧ ghk σ D i j k) ∨ (v = 0 ∧ ¬∃ k : Nat, k < gLn σ D ∧ ghk σ D i j k))) (fun n st => ∃ (k : Nat) (z' l' : Nat → Int → Int), st = (0, I3 i, I3 j, I3 k, M p z' l') ∧ k ≤ gLn σ D ∧ n = gLn σ D - k ∧ (∀ c, c ≠ 40 → c ≠ 41 → z' c = z4 c) ∧ ∀ k' : Nat, k' < k → ¬ghk σ D i j k') (gLn σ D - k)) := by
      intro hng
      unfold f_X11_showsGhost_154
      simp (disch := first | assumption | omega) only [↓b_hid, bH_some, ↓hid_W, W_some, I3_a, I3_s, I3_m, I3_n, I3_l, I3_lt, I3_le, I3_e, I3_dv, I3_rm, I3_mx, I3_mn, I3_ab, cI, bI_0, bI_1, rZ_b, up_same, up_row, up_col, xr_some, LQ_r, LQ_l, Int.sub_self, Int.add_zero, Int.zero_add, Int.sub_zero, Int.neg_neg, not_true_eq_false, not_false_eq_true, Int.add_sub_cancel, ↓ite_iH, iH_t, iH_f, bH_iH, ↓bH_bind, xr_iH, ↓xr_bind, W_iH, WI_t, WI_f]
      refine ⟨_, ?_, k + 1, z6, l6, by rw [Int.natCast_add]; rfl, by omega, rfl, fun c c0 c1 => (g3 c c0 c1).trans (hF c c0 c1), fun k' hk' => ?_⟩
      · omega
      · by_cases hkk : k' = k
        · subst hkk; exact hng
        · exact hN k' (by omega)
    by_cases h9 : (gDt σ D k).2 = -9
    · have := hnext (fun h => h.1 h9)
      rw [h9] at g2
      simp (disch := first | assumption | omega) only [↓b_hid, bH_some, ↓hid_W, W_some, I3_a, I3_s, I3_m, I3_n, I3_l, I3_lt, I3_le, I3_e, I3_dv, I3_rm, I3_mx, I3_mn, I3_ab, cI, bI_0, bI_1, rZ_b, up_same, up_row, up_col, xr_some, LQ_r, LQ_l, Int.sub_self, Int.add_zero, Int.zero_add, Int.sub_zero, Int.neg_neg, not_true_eq_false, not_false_eq_true, Int.add_sub_cancel, ↓ite_iH, iH_t, iH_f, bH_iH, ↓bH_bind, xr_iH, ↓xr_bind, W_iH, WI_t, WI_f, aR_34, aR_19, sR_19, gR_0_0, pR_0, gI_0, pI_0, iO_0, gR_0_1, gR_0_3, gR_0_4, gR_0_5, gR_0_6, gR_0_7, gR_0_8, gR_0_9, gR_0_10, gR_0_11, gR_0_8, iO_40, g_isCod g2, bI_f, iH_pos, iH_neg, WI_pos, WI_neg]
      exact this
    · have hcd : (0 ≤ (gDt σ D k).1 ∧ (gDt σ D k).1 < σ 3) ∧ 0 ≤ (gDt σ D k).2 ∧ (gDt σ D k).2 ≤ 1000000 := by omega
      have fb := c_findBO (p := p) (l := l6) (x := (gDt σ D k).1) (c := (gDt σ D k).2) hb hV hS6 hcd.1.1 hcd.1.2 hcd.2.1 (by omega)
      have hsr := fBσ_r hV (gDt σ D k).1 (idn (Fσ σ (gDt σ D k).1.toNat) (gDt σ D k).2)
      have hsh : fBσ σ (gDt σ D k).1 (idn (Fσ σ (gDt σ D k).1.toNat) (gDt σ D k).2) = gSh σ D k := rfl
      rw [hsh] at fb hsr
      have hTb := isTb_B hb
      simp (disch := first | assumption | omega) only [↓b_hid, bH_some, ↓hid_W, W_some, I3_a, I3_s, I3_m, I3_n, I3_l, I3_lt, I3_le, I3_e, I3_dv, I3_rm, I3_mx, I3_mn, I3_ab, cI, bI_0, bI_1, rZ_b, up_same, up_row, up_col, xr_some, LQ_r, LQ_l, Int.sub_self, Int.add_zero, Int.zero_add, Int.sub_zero, Int.neg_neg, not_true_eq_false, not_false_eq_true, Int.add_sub_cancel, ↓ite_iH, iH_t, iH_f, bH_iH, ↓bH_bind, xr_iH, ↓xr_bind, W_iH, WI_t, WI_f, aR_34, aR_19, sR_19, gR_0_0, pR_0, gI_0, pI_0, iO_0, gR_0_1, gR_0_3, gR_0_4, gR_0_5, gR_0_6, gR_0_7, gR_0_8, gR_0_9, gR_0_10, gR_0_11, gI_B, pI_B, iO_B, gR_B0, gR_B1, aR_B, gI_40, pI_40, iO_40, gR_40_2, aI_41, sI_41, gR_40_5, gR_0_8, iO_40, g_isCod g2, bI_t, g1, g2, iO_Tb, fb, iH_pos, iH_neg, WI_pos, WI_neg]
      refine WI_i (fun q1 => ?_) (fun q1 => ?_)
      · simp (disch := first | assumption | omega) only [↓b_hid, bH_some, ↓hid_W, W_some, I3_a, I3_s, I3_m, I3_n, I3_l, I3_lt, I3_le, I3_e, I3_dv, I3_rm, I3_mx, I3_mn, I3_ab, cI, bI_0, bI_1, rZ_b, up_same, up_row, up_col, xr_some, LQ_r, LQ_l, Int.sub_self, Int.add_zero, Int.zero_add, Int.sub_zero, Int.neg_neg, not_true_eq_false, not_false_eq_true, Int.add_sub_cancel, ↓ite_iH, iH_t, iH_f, bH_iH, ↓bH_bind, xr_iH, ↓xr_bind, W_iH, WI_t, WI_f]; exact hnext (fun h => h.2.1 q1)
      simp (disch := first | assumption | omega) only [↓b_hid, bH_some, ↓hid_W, W_some, I3_a, I3_s, I3_m, I3_n, I3_l, I3_lt, I3_le, I3_e, I3_dv, I3_rm, I3_mx, I3_mn, I3_ab, cI, bI_0, bI_1, rZ_b, up_same, up_row, up_col, xr_some, LQ_r, LQ_l, Int.sub_self, Int.add_zero, Int.zero_add, Int.sub_zero, Int.neg_neg, not_true_eq_false, not_false_eq_true, Int.add_sub_cancel, ↓ite_iH, iH_t, iH_f, bH_iH, ↓bH_bind, xr_iH, ↓xr_bind, W_iH, WI_t, WI_f]
      refine WI_i (fun q2 => ?_) (fun q2 => ?_)
      · simp (disch := first | assumption | omega) only [↓b_hid, bH_some, ↓hid_W, W_some, I3_a, I3_s, I3_m, I3_n, I3_l, I3_lt, I3_le, I3_e, I3_dv, I3_rm, I3_mx, I3_mn, I3_ab, cI, bI_0, bI_1, rZ_b, up_same, up_row, up_col, xr_some, LQ_r, LQ_l, Int.sub_self, Int.add_zero, Int.zero_add, Int.sub_zero, Int.neg_neg, not_true_eq_false, not_false_eq_true, Int.add_sub_cancel, ↓ite_iH, iH_t, iH_f, bH_iH, ↓bH_bind, xr_iH, ↓xr_bind, W_iH, WI_t, WI_f]; exact hnext (fun h => h.2.2.1 q2)
      simp (disch := first | assumption | omega) only [↓b_hid, bH_some, ↓hid_W, W_some, I3_a, I3_s, I3_m, I3_n, I3_l, I3_lt, I3_le, I3_e, I3_dv, I3_rm, I3_mx, I3_mn, I3_ab, cI, bI_0, bI_1, rZ_b, up_same, up_row, up_col, xr_some, LQ_r, LQ_l, Int.sub_self, Int.add_zero, Int.zero_add, Int.sub_zero, Int.neg_neg, not_true_eq_false, not_false_eq_true, Int.add_sub_cancel, ↓ite_iH, iH_t, iH_f, bH_iH, ↓bH_bind, xr_iH, ↓xr_bind, W_iH, WI_t, WI_f]
      refine WI_i (fun q3 => ?_) (fun q3 => ?_)
      · simp (disch := first | assumption | omega) only [↓b_hid, bH_some, ↓hid_W, W_some, I3_a, I3_s, I3_m, I3_n, I3_l, I3_lt, I3_le, I3_e, I3_dv, I3_rm, I3_mx, I3_mn, I3_ab, cI, bI_0, bI_1, rZ_b, up_same, up_row, up_col, xr_some, LQ_r, LQ_l, Int.sub_self, Int.add_zero, Int.zero_add, Int.sub_zero, Int.neg_neg, not_true_eq_false, not_false_eq_true, Int.add_sub_cancel, ↓ite_iH, iH_t, iH_f, bH_iH, ↓bH_bind, xr_iH, ↓xr_bind, W_iH, WI_t, WI_f]; exact hnext (fun h => h.2.2.2 q3)
      simp (disch := first | assumption | omega) only [↓b_hid, bH_some, ↓hid_W, W_some, I3_a, I3_s, I3_m, I3_n, I3_l, I3_lt, I3_le, I3_e, I3_dv, I3_rm, I3_mx, I3_mn, I3_ab, cI, bI_0, bI_1, rZ_b, up_same, up_row, up_col, xr_some, LQ_r, LQ_l, Int.sub_self, Int.add_zero, Int.zero_add, Int.sub_zero, Int.neg_neg, not_true_eq_false, not_false_eq_true, Int.add_sub_cancel, ↓ite_iH, iH_t, iH_f, bH_iH, ↓bH_bind, xr_iH, ↓xr_bind, W_iH, WI_t, WI_f, f_X11_showsGhost_152]
      exact ⟨1, z6, l6, rfl, fun c hc => (g3 c (by omega) (by omega)).trans (hF5z c hc), Or.inl ⟨rfl, k, hkn, h9, q1, q2, q3⟩⟩
  · have : k = gLn σ D := by omega
    simp (disch := first | assumption | omega) only [↓b_hid, bH_some, ↓hid_W, W_some, I3_a, I3_s, I3_m, I3_n, I3_l, I3_lt, I3_le, I3_e, I3_dv, I3_rm, I3_mx, I3_mn, I3_ab, cI, bI_0, bI_1, rZ_b, up_same, up_row, up_col, xr_some, LQ_r, LQ_l, Int.sub_self, Int.add_zero, Int.zero_add, Int.sub_zero, Int.neg_neg, not_true_eq_false, not_false_eq_true, Int.add_sub_cancel, ↓ite_iH, iH_t, iH_f, bH_iH, ↓bH_bind, xr_iH, ↓xr_bind, W_iH, WI_t, WI_f, aR_34, aR_19, sR_19, gR_0_0, pR_0, gI_0, pI_0, iO_0, gR_0_1, gR_0_3, gR_0_4, gR_0_5, gR_0_6, gR_0_7, gR_0_8, gR_0_9, gR_0_10, gR_0_11, gI_35, pI_35, iO_35, gR_35_0, aI_36, sI_36, gR_35_1, aI_37, sI_37, gR_35_3, gR_0_7, e2, f_X11_showsGhost_160, iH_pos, iH_neg, WI_pos, WI_neg]
    refine ⟨0, z5, l5, rfl, hF5z, Or.inr ⟨rfl, ?_⟩⟩
    rintro ⟨k', h1, h2⟩
    exact hN k' (by omega) h2
set_option maxHeartbeats 4000000 in
theorem c_ghosts {σ : Int → Int} {o : Int} (hb : isB (p 0)) (hV : V σ) (hS : St z (p 0) σ) (ho : -2147483648 ≤ o ∧ o < 2147483648) : WP (f_X11_ghosts 0 (I3 o) (M p z l)) (fun r => ∃ z' l', r = (I3 (A_ghosts σ o), M p z' l') ∧ FrX z z') := by
  have hr := isB_r hb
  unfold f_X11_ghosts A_ghosts
  by_cases h1 : 0 ≤ o ∧ o ≤ 60000
  case neg =>
    rw [if_neg h1]
    simp (disch := first | assumption | omega) only [↓b_hid, bH_some, ↓hid_W, W_some, I3_a, I3_s, I3_m, I3_n, I3_l, I3_lt, I3_le, I3_e, I3_dv, I3_rm, I3_mx, I3_mn, I3_ab, cI, bI_0, bI_1, rZ_b, up_same, up_row, up_col, xr_some, LQ_r, LQ_l, Int.sub_self, Int.add_zero, Int.zero_add, Int.sub_zero, Int.neg_neg, not_true_eq_false, not_false_eq_true, Int.add_sub_cancel, ↓ite_iH, iH_t, iH_f, bH_iH, ↓bH_bind, xr_iH, ↓xr_bind, W_iH, WI_t, WI_f, g_inRange, bI_f, iH_pos, iH_neg, WI_pos, WI_neg]
    exact ⟨z, l, rfl, FrX_r z⟩
  rw [if_pos h1]
  obtain ⟨⟨e1, e2⟩, h3', h58⟩ := c_tb hV hS
  have hTb := isTb_B hb
  simp (disch := first | assumption | omega) only [↓b_hid, bH_some, ↓hid_W, W_some, I3_a, I3_s, I3_m, I3_n, I3_l, I3_lt, I3_le, I3_e, I3_dv, I3_rm, I3_mx, I3_mn, I3_ab, cI, bI_0, bI_1, rZ_b, up_same, up_row, up_col, xr_some, LQ_r, LQ_l, Int.sub_self, Int.add_zero, Int.zero_add, Int.sub_zero, Int.neg_neg, not_true_eq_false, not_false_eq_true, Int.add_sub_cancel, ↓ite_iH, iH_t, iH_f, bH_iH, ↓bH_bind, xr_iH, ↓xr_bind, W_iH, WI_t, WI_f, aR_34, aR_19, sR_19, gR_0_0, pR_0, gI_0, pI_0, iO_0, gR_0_1, gR_0_3, gR_0_4, gR_0_5, gR_0_6, gR_0_7, gR_0_8, gR_0_9, gR_0_10, gR_0_11, gI_B, pI_B, iO_B, gR_B0, gR_B1, aR_B, gI_Tb, pI_Tb, iO_Tb, gR_Tb0, gR_Tb2, gR_Tb3, aR_Tb, aI_Tb2, aI_Tb3, sI_Tb2, sI_Tb3, cpI_Tb2, cpI_Tb3, g_inRange, bI_t, e2, iO_0, iH_pos, iH_neg, WI_pos, WI_neg]
  refine W_bH (W_imp (w_wbf hb hV hS) ?_)
  rintro _ ⟨z1, rfl, a1, a2⟩
  have hS1 : St z1 (p 0) σ := St_congr hV (fun k k0 k1 => a2 k (by omega)) hS
  simp (disch := first | assumption | omega) only [↓b_hid, bH_some, ↓hid_W, W_some, I3_a, I3_s, I3_m, I3_n, I3_l, I3_lt, I3_le, I3_e, I3_dv, I3_rm, I3_mx, I3_mn, I3_ab, cI, bI_0, bI_1, rZ_b, up_same, up_row, up_col, xr_some, LQ_r, LQ_l, Int.sub_self, Int.add_zero, Int.zero_add, Int.sub_zero, Int.neg_neg, not_true_eq_false, not_false_eq_true, Int.add_sub_cancel, ↓ite_iH, iH_t, iH_f, bH_iH, ↓bH_bind, xr_iH, ↓xr_bind, W_iH, WI_t, WI_f]
  generalize hnB : (σ 58).toNat = nB
  have hnB' : σ 58 = (nB : Int) := by omega
  rw [hnB']
  unfold f_X11_ghosts_32
  refine lp_W (fun n st => ∃ (i : Nat) (z' l' : Nat → Int → Int), st = (0, I3 o, I3 nB, I3 (cIg (gh σ o) nB i), I3 i, M p z' l') ∧ i ≤ nB ∧ n = nB - i ∧ (∀ c, c < 32 ∨ 57 ≤ c → z' c = z1 c)) (fun n st hst => ?_) ⟨0, z1, l, rfl, by omega, rfl, fun _ _ => rfl⟩
  obtain ⟨i, z', l', rfl, hi, rfl, hF⟩ := hst
  have hci := cIg_r (gh σ o) nB i
  have hci2 : (nB : Int) * i ≤ 144 := Int.le_trans (Int.mul_le_mul (show (nB : Int) ≤ 12 by omega) (show (i : Int) ≤ 12 by omega) (by omega) (by omega)) (by decide)
  unfold f_X11_ghosts_32_b
  by_cases hin : i < nB
  · simp (disch := first | assumption | omega) only [↓b_hid, bH_some, ↓hid_W, W_some, I3_a, I3_s, I3_m, I3_n, I3_l, I3_lt, I3_le, I3_e, I3_dv, I3_rm, I3_mx, I3_mn, I3_ab, cI, bI_0, bI_1, rZ_b, up_same, up_row, up_col, xr_some, LQ_r, LQ_l, Int.sub_self, Int.add_zero, Int.zero_add, Int.sub_zero, Int.neg_neg, not_true_eq_false, not_false_eq_true, Int.add_sub_cancel, ↓ite_iH, iH_t, iH_f, bH_iH, ↓bH_bind, xr_iH, ↓xr_bind, W_iH, WI_t, WI_f, iH_pos, iH_neg, WI_pos, WI_neg]
    unfold f_X11_ghosts_42
    refine lp_W (fun n st => ∃ (m : Nat) (z' l' : Nat → Int → Int), st = (0, I3 o, I3 nB, I3 (cIg (gh σ o) nB i + cJ (gh σ o i) i m), I3 i, I3 (i + m), M p z' l') ∧ i + m ≤ nB ∧ n = nB - i - m ∧ (∀ c, c < 32 ∨ 57 ≤ c → z' c = z1 c)) (fun n st hst => ?_) ⟨0, z', l', by rw [cJ, Int.add_zero]; rfl, by omega, rfl, hF⟩
    obtain ⟨m, z2, l2, rfl, hm, rfl, hF2⟩ := hst
    have hcj := cJ_r (gh σ o i) i m
    unfold f_X11_ghosts_42_b
    by_cases hjn : i + m < nB
    · have hS2 : St z2 (p 0) σ := St_congr hV (fun k k0 k1 => hF2 k (by omega)) hS1
      have hT1 : Trx z2 (165 + 2 * i) (bσ σ i) := Tr_congr (hF2 _ (by omega)) (hF2 _ (by omega)) (a1 i (by omega))
      have hT2 : Trx z2 (165 + 2 * (i + m)) (bσ σ ((i + m : Nat) : Int)) := Tr_congr (hF2 _ (by omega)) (hF2 _ (by omega)) (a1 (i + m) (by omega))
      have hsh := w_shows (l := l2) (i := i) (j := i + m) hb hV hS2 (by omega) (by omega) h1 hT1 hT2
      rw [Int.natCast_add] at hsh
      simp (disch := first | assumption | omega) only [↓b_hid, bH_some, ↓hid_W, W_some, I3_a, I3_s, I3_m, I3_n, I3_l, I3_lt, I3_le, I3_e, I3_dv, I3_rm, I3_mx, I3_mn, I3_ab, cI, bI_0, bI_1, rZ_b, up_same, up_row, up_col, xr_some, LQ_r, LQ_l, Int.sub_self, Int.add_zero, Int.zero_add, Int.sub_zero, Int.neg_neg, not_true_eq_false, not_false_eq_true, Int.add_sub_cancel, ↓ite_iH, iH_t, iH_f, bH_iH, ↓bH_bind, xr_iH, ↓xr_bind, W_iH, WI_t, WI_f, aR_34, aR_19, sR_19, gR_0_0, pR_0, gI_0, pI_0, iO_0, gR_0_1, gR_0_3, gR_0_4, gR_0_5, gR_0_6, gR_0_7, gR_0_8, gR_0_9, gR_0_10, gR_0_11, iO_0, iH_pos, iH_neg, WI_pos, WI_neg]
      refine W_bH (W_imp hsh ?_)
      rintro _ ⟨v, z3, l3, rfl, c1, c2⟩
      have hF3 : ∀ c, c < 32 ∨ 57 ≤ c → z3 c = z1 c := fun c hc => (c1 c hc).trans (hF2 c hc)
      rcases c2 with ⟨rfl, c2⟩ | ⟨rfl, c2⟩
      · simp (disch := first | assumption | omega) only [↓b_hid, bH_some, ↓hid_W, W_some, I3_a, I3_s, I3_m, I3_n, I3_l, I3_lt, I3_le, I3_e, I3_dv, I3_rm, I3_mx, I3_mn, I3_ab, cI, bI_0, bI_1, rZ_b, up_same, up_row, up_col, xr_some, LQ_r, LQ_l, Int.sub_self, Int.add_zero, Int.zero_add, Int.sub_zero, Int.neg_neg, not_true_eq_false, not_false_eq_true, Int.add_sub_cancel, ↓ite_iH, iH_t, iH_f, bH_iH, ↓bH_bind, xr_iH, ↓xr_bind, W_iH, WI_t, WI_f, f_X11_ghosts_63, iH_pos, iH_neg, WI_pos, WI_neg]
        refine ⟨_, ?_, m + 1, z3, l3, ?_, by omega, rfl, hF3⟩
        · omega
        · rw [cJ, cif_t c2, Int.natCast_add, ← Int.add_assoc, ← Int.add_assoc]; rfl
      · simp (disch := first | assumption | omega) only [↓b_hid, bH_some, ↓hid_W, W_some, I3_a, I3_s, I3_m, I3_n, I3_l, I3_lt, I3_le, I3_e, I3_dv, I3_rm, I3_mx, I3_mn, I3_ab, cI, bI_0, bI_1, rZ_b, up_same, up_row, up_col, xr_some, LQ_r, LQ_l, Int.sub_self, Int.add_zero, Int.zero_add, Int.sub_zero, Int.neg_neg, not_true_eq_false, not_false_eq_true, Int.add_sub_cancel, ↓ite_iH, iH_t, iH_f, bH_iH, ↓bH_bind, xr_iH, ↓xr_bind, W_iH, WI_t, WI_f, f_X11_ghosts_63, iH_pos, iH_neg, WI_pos, WI_neg]
        refine ⟨_, ?_, m + 1, z3, l3, ?_, by omega, rfl, hF3⟩
        · omega
        · rw [cJ, cif_f c2, Int.natCast_add, Int.add_zero, ← Int.add_assoc]; rfl
    · have hme : m = nB - i := by omega
      simp (disch := first | assumption | omega) only [↓b_hid, bH_some, ↓hid_W, W_some, I3_a, I3_s, I3_m, I3_n, I3_l, I3_lt, I3_le, I3_e, I3_dv, I3_rm, I3_mx, I3_mn, I3_ab, cI, bI_0, bI_1, rZ_b, up_same, up_row, up_col, xr_some, LQ_r, LQ_l, Int.sub_self, Int.add_zero, Int.zero_add, Int.sub_zero, Int.neg_neg, not_true_eq_false, not_false_eq_true, Int.add_sub_cancel, ↓ite_iH, iH_t, iH_f, bH_iH, ↓bH_bind, xr_iH, ↓xr_bind, W_iH, WI_t, WI_f, f_X11_ghosts_69, iH_pos, iH_neg, WI_pos, WI_neg]
      refine ⟨_, ?_, i + 1, z2, l2, ?_, by omega, rfl, hF2⟩
      · omega
      · rw [cIg, hme, Int.natCast_add]; rfl
  · have : i = nB := by omega
    subst this
    simp (disch := first | assumption | omega) only [↓b_hid, bH_some, ↓hid_W, W_some, I3_a, I3_s, I3_m, I3_n, I3_l, I3_lt, I3_le, I3_e, I3_dv, I3_rm, I3_mx, I3_mn, I3_ab, cI, bI_0, bI_1, rZ_b, up_same, up_row, up_col, xr_some, LQ_r, LQ_l, Int.sub_self, Int.add_zero, Int.zero_add, Int.sub_zero, Int.neg_neg, not_true_eq_false, not_false_eq_true, Int.add_sub_cancel, ↓ite_iH, iH_t, iH_f, bH_iH, ↓bH_bind, xr_iH, ↓xr_bind, W_iH, WI_t, WI_f, f_X11_ghosts_75, iH_pos, iH_neg, WI_pos, WI_neg]
    exact ⟨z', l', rfl, fun k hk => (hF k (by omega)).trans (a2 k (by omega))⟩
end
