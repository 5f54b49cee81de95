/-! distort(): both sides. -/
theorem stc_c {d d' : Int → Int} (c : Int) : ∀ n : Nat, (∀ i : Int, 0 ≤ i → i < n → d i = d' i) → stc d c n = stc d' c n
  | 0, _ => rfl
  | n + 1, h => by
    rw [stc, stc, stc_c c n (fun i i0 i1 => h i i0 (by omega)), h n (by omega) (by omega)]
def dsT (σ : Int → Int) (s : Nat) (c : Int) : Dn := (σ (83 + s), fun i => stv (dσ σ s i) (ste c i))
theorem Gd_dsT {σ : Int → Int} {s : Nat} {c : Int} (hV : V σ) (hs : s < 3) : Gd (dsT σ s c) := ⟨(σ_tr hV hs).1, fun i _ _ => stv_r _ _⟩
def sgn (w c : Int) : Int := if w = 0 then c else -c
def A_dist (σ : Int → Int) (s c w : Int) : Int := if 0 ≤ s ∧ s ≤ 2 then (if 0 ≤ c ∧ c ≤ 30 then (if 0 ≤ w ∧ w ≤ 1 then stc (dσ σ s.toNat) (sgn w c) (σ (83 + s)).toNat else -1) else -1) else -1
def G_dist (s c w : Int) : Prop := (0 ≤ s ∧ s ≤ 2) ∧ (0 ≤ c ∧ c ≤ 30) ∧ (0 ≤ w ∧ w ≤ 1)
section
variable {p : Nat → Nat} {z l : Nat → Int → Int}
end
set_option maxHeartbeats 4000000 in
theorem x_distort {s : Int} (hs : -2147483648 ≤ s ∧ s < 2147483648) {c : Int} (hc : -2147483648 ≤ c ∧ c < 2147483648) {w : Int} (hw : -2147483648 ≤ w ∧ w < 2147483648) : CC (f_X11_distort 0 (I3 s) (I3 c) (I3 w)) (fun σ => A_dist σ s c w) (fun _ => G_dist s c w) (fun σ => tσ σ s.toNat (dsT σ s.toNat (sgn w c))) := by
  intro p z l σ n h hp hV hS h0 h6 hH
  dsimp only
  unfold f_X11_distort A_dist G_dist
  by_cases h1 : 0 ≤ s ∧ s ≤ 2
  case neg =>
    simp only [if_neg h1]
    simp (disch := first | assumption | omega) only [↓b_hid, bH_some, ↓hid_W, W_some, I3_a, I3_s, I3_m, I3_n, I3_l, I3_lt, I3_le, I3_e, I3_dv, I3_rm, I3_mx, I3_mn, I3_ab, cI, bI_0, bI_1, rZ_b, up_same, up_row, up_col, xr_some, LQ_r, LQ_l, Int.sub_self, Int.add_zero, Int.zero_add, Int.sub_zero, Int.neg_neg, not_true_eq_false, not_false_eq_true, Int.add_sub_cancel, ↓ite_iH, iH_t, iH_f, bH_iH, ↓bH_bind, xr_iH, ↓xr_bind, W_iH, WI_t, WI_f, g_isSlot, bI_f, iH_pos, iH_neg, WI_pos, WI_neg]
    exact ⟨p, z, l, rfl, Or.inr ⟨fun hg => h1 hg.1, rfl, FrX_r z⟩⟩
  by_cases h3 : 0 ≤ c ∧ c ≤ 30
  case neg =>
    simp only [if_pos h1, if_neg h3]
    simp (disch := first | assumption | omega) only [↓b_hid, bH_some, ↓hid_W, W_some, I3_a, I3_s, I3_m, I3_n, I3_l, I3_lt, I3_le, I3_e, I3_dv, I3_rm, I3_mx, I3_mn, I3_ab, cI, bI_0, bI_1, rZ_b, up_same, up_row, up_col, xr_some, LQ_r, LQ_l, Int.sub_self, Int.add_zero, Int.zero_add, Int.sub_zero, Int.neg_neg, not_true_eq_false, not_false_eq_true, Int.add_sub_cancel, ↓ite_iH, iH_t, iH_f, bH_iH, ↓bH_bind, xr_iH, ↓xr_bind, W_iH, WI_t, WI_f, g_isSlot, bI_t, g_inRange, bI_f, iH_pos, iH_neg, WI_pos, WI_neg]
    exact ⟨p, z, l, rfl, Or.inr ⟨fun hg => h3 hg.2.1, rfl, FrX_r z⟩⟩
  by_cases h4 : 0 ≤ w ∧ w ≤ 1
  case neg =>
    simp only [if_pos h1, if_pos h3, if_neg h4]
    simp (disch := first | assumption | omega) only [↓b_hid, bH_some, ↓hid_W, W_some, I3_a, I3_s, I3_m, I3_n, I3_l, I3_lt, I3_le, I3_e, I3_dv, I3_rm, I3_mx, I3_mn, I3_ab, cI, bI_0, bI_1, rZ_b, up_same, up_row, up_col, xr_some, LQ_r, LQ_l, Int.sub_self, Int.add_zero, Int.zero_add, Int.sub_zero, Int.neg_neg, not_true_eq_false, not_false_eq_true, Int.add_sub_cancel, ↓ite_iH, iH_t, iH_f, bH_iH, ↓bH_bind, xr_iH, ↓xr_bind, W_iH, WI_t, WI_f, g_isSlot, bI_t, g_inRange, bI_f, iH_pos, iH_neg, WI_pos, WI_neg]
    exact ⟨p, z, l, rfl, Or.inr ⟨fun hg => h4 hg.2.2, rfl, FrX_r z⟩⟩
  simp only [if_pos h1, if_pos h3, if_pos h4]
  have hss : s = ((s.toNat : Nat) : Int) := by omega
  have hs3 : s.toNat < 3 := by omega
  simp (disch := first | assumption | omega) only [↓b_hid, bH_some, ↓hid_W, W_some, I3_a, I3_s, I3_m, I3_n, I3_l, I3_lt, I3_le, I3_e, I3_dv, I3_rm, I3_mx, I3_mn, I3_ab, cI, bI_0, bI_1, rZ_b, up_same, up_row, up_col, xr_some, LQ_r, LQ_l, Int.sub_self, Int.add_zero, Int.zero_add, Int.sub_zero, Int.neg_neg, not_true_eq_false, not_false_eq_true, Int.add_sub_cancel, ↓ite_iH, iH_t, iH_f, bH_iH, ↓bH_bind, xr_iH, ↓xr_bind, W_iH, WI_t, WI_f, aR_34, aR_19, sR_19, gR_0_0, pR_0, gI_0, pI_0, iO_0, gR_0_1, gR_0_3, gR_0_4, gR_0_5, gR_0_6, gR_0_7, gR_0_8, gR_0_9, gR_0_10, gR_0_11, g_isSlot, bI_t, g_inRange, iO_0, iH_pos, iH_neg, WI_pos, WI_neg]
  generalize s.toNat = sn at *
  subst hss
  refine W_bH (W_imp (c_save hp hV hS h0 h6 hH) ?_)
  rintro _ ⟨p', z', rfl, a0, a1, a2⟩
  have hb := a1.1.1 0 (by omega)
  have hrB := isB_r hb
  have hT := isT_B hb hs3
  have hTr := a1.2.1.2.2 sn hs3
  have ht := σ_tr hV hs3
  have hcr : -30 ≤ sgn w c ∧ sgn w c ≤ 30 := by unfold sgn; split <;> omega
  have e1 : z' (p' 0 + 12 + 2 * sn) 1 = σ (83 + sn) := hTr.1
  have e2 : ∀ i : Int, 0 ≤ i → i < σ (83 + sn) → z' (p' 0 + 12 + 2 * sn + 1) i = dσ σ sn i := hTr.2
  have gS := g_stretch (p := p') (z := z') (l := l) (t := p' 0 + 12 + 2 * sn) (c := sgn w c) hT (by omega) (by omega) hcr.1 hcr.2 (fun i i0 i1 => by rw [e2 i i0 (by omega)]; exact ht.2 i i0 (by omega))
  rw [e1, stc_c (d' := dσ σ sn) _ _ (fun i i0 i1 => e2 i i0 (by omega))] at gS
  have hfin : CX p z n h σ (tσ σ sn (dsT σ sn (sgn w c))) p' (stz z' (p' 0 + 12 + 2 * sn) (sgn w c) (σ (83 + sn))) := by
    refine CX_mod ⟨h0, h6⟩ a1 (fun k hk _ => ?_) (St_t hs3 (Gd_dsT hV hs3).1 hV a1.2.1 (fun k k0 k1 => ?_) ⟨?_, fun i i0 i1 => ?_⟩)
    · funext j; unfold stz; rw [if_neg (by omega)]
    · funext j; unfold stz; rw [if_neg (by omega)]
    · unfold stz; rw [if_neg (by omega)]; exact e1
    · have i1 : i < σ (83 + sn) := i1
      unfold stz; rw [if_pos ⟨rfl, i0, i1⟩, e2 i i0 i1]; rfl
  have gT := g_trAt (p := p') (z := z') (l := l) (i := (sn : Int)) hb (by omega) (by omega)
  rw [Int.toNat_natCast] at gT
  generalize p' 0 + 12 + 2 * sn = t at *
  by_cases hw0 : w = 0
  · have hsg : sgn w c = c := by unfold sgn; rw [if_pos hw0]
    rw [hsg] at gS hfin ⊢
    simp (disch := first | assumption | omega) only [↓b_hid, bH_some, ↓hid_W, W_some, I3_a, I3_s, I3_m, I3_n, I3_l, I3_lt, I3_le, I3_e, I3_dv, I3_rm, I3_mx, I3_mn, I3_ab, cI, bI_0, bI_1, rZ_b, up_same, up_row, up_col, xr_some, LQ_r, LQ_l, Int.sub_self, Int.add_zero, Int.zero_add, Int.sub_zero, Int.neg_neg, not_true_eq_false, not_false_eq_true, Int.add_sub_cancel, ↓ite_iH, iH_t, iH_f, bH_iH, ↓bH_bind, xr_iH, ↓xr_bind, W_iH, WI_t, WI_f, aR_34, aR_19, sR_19, gR_0_0, pR_0, gI_0, pI_0, iO_0, gR_0_1, gR_0_3, gR_0_4, gR_0_5, gR_0_6, gR_0_7, gR_0_8, gR_0_9, gR_0_10, gR_0_11, gI_B, pI_B, iO_B, gR_B0, gR_B1, aR_B, gT, f_X11_distort_50, iO_T hT, gS, iH_pos, iH_neg, WI_pos, WI_neg]
    exact ⟨p', _, l, rfl, Or.inl ⟨⟨h1, h3, h4⟩, hfin⟩⟩
  · have hsg : sgn w c = -c := by unfold sgn; rw [if_neg hw0]
    rw [hsg] at gS hfin ⊢
    simp (disch := first | assumption | omega) only [↓b_hid, bH_some, ↓hid_W, W_some, I3_a, I3_s, I3_m, I3_n, I3_l, I3_lt, I3_le, I3_e, I3_dv, I3_rm, I3_mx, I3_mn, I3_ab, cI, bI_0, bI_1, rZ_b, up_same, up_row, up_col, xr_some, LQ_r, LQ_l, Int.sub_self, Int.add_zero, Int.zero_add, Int.sub_zero, Int.neg_neg, not_true_eq_false, not_false_eq_true, Int.add_sub_cancel, ↓ite_iH, iH_t, iH_f, bH_iH, ↓bH_bind, xr_iH, ↓xr_bind, W_iH, WI_t, WI_f, aR_34, aR_19, sR_19, gR_0_0, pR_0, gI_0, pI_0, iO_0, gR_0_1, gR_0_3, gR_0_4, gR_0_5, gR_0_6, gR_0_7, gR_0_8, gR_0_9, gR_0_10, gR_0_11, gI_B, pI_B, iO_B, gR_B0, gR_B1, aR_B, gT, f_X11_distort_50, iO_T hT, gS, iH_pos, iH_neg, WI_pos, WI_neg]
    exact ⟨p', _, l, rfl, Or.inl ⟨⟨h1, h3, h4⟩, hfin⟩⟩
