/-! Buttons: where they are, what they are, on both sides; the frames of the buttons. -/
def fBσ (σ : Int → Int) (x y : Int) : Int := fB (fun k => σ (59 + 2 * k)) (fun k => σ (60 + 2 * k)) x y (σ 58).toNat 0
theorem fBσ_r {σ : Int → Int} (hV : V σ) (x y : Int) : -9 ≤ fBσ σ x y ∧ fBσ σ x y < 12 := by
  have h := fB_r (fun k => σ (59 + 2 * k)) (fun k => σ (60 + 2 * k)) x y (σ 58).toNat 0 (by omega)
  have := hV.2.2.2.2.1
  unfold fBσ
  omega
section
variable {p : Nat → Nat} {z l : Nat → Int → Int}
/-- the class: of the state at b -/
theorem c_tb {b : Nat} {σ : Int → Int} (hV : V σ) (hS : St z b σ) : (z (b + 1) 1 = σ 3 ∧ z (b + 1) 4 = σ 58) ∧ (0 ≤ σ 3 ∧ σ 3 ≤ 6) ∧ (0 ≤ σ 58 ∧ σ 58 ≤ 12) := ⟨⟨hS.2.1.1, hS.2.1.2.1⟩, hV.2.2.2.1, hV.2.2.2.2.1⟩
theorem c_bt {b : Nat} {σ : Int → Int} (hV : V σ) (hS : St z b σ) {i : Int} (h0 : 0 ≤ i) (h1 : i < σ 58) : (z (b + 1 + 2) i = σ (59 + 2 * i) ∧ z (b + 1 + 3) i = σ (60 + 2 * i)) ∧ (0 ≤ σ (59 + 2 * i) ∧ σ (59 + 2 * i) < σ 3 ∧ σ 3 ≤ 6) ∧ 0 ≤ σ (60 + 2 * i) ∧ σ (60 + 2 * i) < 65536 := by
  have h := hV.2.2.2.2.2.2.1 i h0 h1
  have := hV.2.2.2.1
  exact ⟨hS.2.1.2.2.2 i h0 h1, by omega, by omega⟩
theorem c_pr {b q : Nat} {σ : Int → Int} (hV : V σ) (hS : St z b σ) (hq : (q : Int) < σ 3) : (∀ f : Int, 0 ≤ f → f < 9 → z (b + 1 + 4 + q) f = Fσ σ q f) ∧ PV (Fσ σ q) ∧ PV (z (b + 1 + 4 + q)) := by
  have h : ∀ f : Int, 0 ≤ f → f < 9 → z (b + 1 + 4 + q) f = Fσ σ q f := fun f f0 f1 => hS.2.1.2.2.1 q hq f f0 f1
  have h2 : PV (Fσ σ q) := hV.2.2.2.2.2.1 q hq
  exact ⟨h, h2, PV_c (fun j j0 j1 => (h j j0 j1).symm) h2⟩
theorem c_findB {b : Nat} {x y : Int} {σ : Int → Int} (hb : isB b) (hV : V σ) (hS : St z b σ) (hx : -2147483648 ≤ x) (hx' : x < 2147483648) (hy : -2147483648 ≤ y) (hy' : y < 2147483648) : f_X8_findButton (b + 1) (I3 x) (I3 y) (M p z l) = some (I3 (fBσ σ x y), M p z l) := by
  obtain ⟨⟨e1, e2⟩, h3, h58⟩ := c_tb hV hS
  have hd : ∀ i, 0 ≤ i → i < z (b + 1) 4 → 0 ≤ z (b + 1 + 2) i ∧ z (b + 1 + 2) i < 6 ∧ 0 ≤ z (b + 1 + 3) i ∧ z (b + 1 + 3) i < 65536 := by
    intro i i0 i1
    have := c_bt hV hS i0 (by omega)
    omega
  rw [g_findB (isTb_B hb) (by omega) (by omega) hx hx' hy hy' hd, e2]
  have : fB (z (b + 1 + 2)) (z (b + 1 + 3)) x y (σ 58).toNat 0 = fBσ σ x y := by
    unfold fBσ
    refine fB_congr _ _ (fun k k0 k1 => ?_)
    exact (c_bt hV hS k0 (by omega)).1
  rw [this]
theorem c_idn {b : Nat} {x c : Int} {σ : Int → Int} (hb : isB b) (hV : V σ) (hS : St z b σ) (hx : 0 ≤ x) (hx' : x < σ 3) (hc : 0 ≤ c) : f_X6_identityOf (b + 1 + 4 + x.toNat) (I3 c) (M p z l) = some (I3 (idn (Fσ σ x.toNat) c), M p z l) := by
  obtain ⟨⟨e1, e2⟩, h3, h58⟩ := c_tb hV hS
  obtain ⟨h, h2, h4⟩ := c_pr (q := x.toNat) hV hS (by omega)
  rw [g_idn (isP_T (isTb_B hb) (by omega)) hc h4.2.2.2.2.2.1 h4.2.2.2.2.2.2.1 h4.2.2.2.2.2.2.2, idn_congr h]
theorem c_findBO {b : Nat} {x c : Int} {σ : Int → Int} (hb : isB b) (hV : V σ) (hS : St z b σ) (hx : 0 ≤ x) (hx' : x < σ 3) (hc : 0 ≤ c) (hc' : c < 2147483648) : f_X8_findButtonOf (b + 1) (I3 x) (I3 c) (M p z l) = some (I3 (fBσ σ x (idn (Fσ σ x.toNat) c)), M p z l) := by
  obtain ⟨⟨e1, e2⟩, h3, h58⟩ := c_tb hV hS
  have hr := idn_r (f := Fσ σ x.toNat) hc
  have hP := isP_T (isTb_B hb) (i := x.toNat) (by omega)
  have hTb := isTb_B hb
  have i1 := c_idn (p := p) (l := l) hb hV hS hx hx' hc
  have i2 := c_findB (p := p) (l := l) (x := x) (y := idn (Fσ σ x.toNat) c) hb hV hS (by omega) (by omega) (by omega) (by omega)
  apply W_eq; unfold f_X8_findButtonOf
  simp (disch := first | assumption | omega) only [↓b_hid, bH_some, ↓hid_W, ↓W_ite, WI_t, WI_f, W_some, I3_a, I3_s, I3_m, I3_n, I3_l, I3_lt, I3_le, I3_e, I3_dv, I3_rm, I3_mx, I3_mn, I3_ab, cI, bI_0, bI_1, rZ_b, up_same, up_row, up_col, xr_some, LQ_r, LQ_l, Int.sub_self, Int.add_zero, Int.zero_add, Int.sub_zero, Int.neg_neg, not_true_eq_false, not_false_eq_true, Int.add_sub_cancel, gI_Tb, pI_Tb, iO_Tb, gR_Tb0, gR_Tb2, gR_Tb3, aR_Tb, aI_Tb2, aI_Tb3, sI_Tb2, sI_Tb3, cpI_Tb2, cpI_Tb3, g_pAt, iO_P, i1, i2]
/-- the frame of button i -/
def bσ (σ : Int → Int) (i : Int) : Dn := frm (Fσ σ (σ (59 + 2 * i)).toNat) (σ (60 + 2 * i))
end
