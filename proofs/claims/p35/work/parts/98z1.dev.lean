/-! deviation(): both sides. -/
def dq (a b : Int) : Int := 1000 * (if a ≤ b then b - a else a - b) / b
def dvf (e x : Int → Int) : Nat → Int
  | 0 => 0
  | k + 1 => if dvf e x k < dq (e k) (x k) then dq (e k) (x k) else dvf e x k
theorem dq_r {a b : Int} (ha : 1 ≤ a ∧ a ≤ 60000) (hb : 1 ≤ b ∧ b ≤ 60000) : (0 ≤ (if a ≤ b then b - a else a - b) ∧ (if a ≤ b then b - a else a - b) ≤ 60000) ∧ 0 ≤ dq a b ∧ dq a b ≤ 60000000 := by
  have h : 0 ≤ (if a ≤ b then b - a else a - b) ∧ (if a ≤ b then b - a else a - b) ≤ 60000 := by split <;> omega
  refine ⟨h, ?_⟩
  unfold dq
  generalize (if a ≤ b then b - a else a - b) = v at *
  have h1 := Int.ediv_le_self b (show 0 ≤ 1000 * v by omega)
  have h2 := Int.ediv_nonneg (show 0 ≤ 1000 * v by omega) (show 0 ≤ b by omega)
  omega
theorem dvf_r {e x : Int → Int} {m : Int} (he : ∀ k, 0 ≤ k → k < m → 1 ≤ e k ∧ e k ≤ 60000) (hx : ∀ k, 0 ≤ k → k < m → 1 ≤ x k ∧ x k ≤ 60000) : ∀ k : Nat, (k : Int) ≤ m → 0 ≤ dvf e x k ∧ dvf e x k ≤ 60000000
  | 0, _ => by rw [dvf]; omega
  | k + 1, h => by
    have h1 := dvf_r he hx k (by omega)
    have h2 := dq_r (he k (by omega) (by omega)) (hx k (by omega) (by omega))
    rw [dvf]; split <;> omega
noncomputable def dvX (σ : Int → Int) (s i : Nat) : Dn := if (frD σ s i).2 = -9 then frs (Fσ σ (frD σ s i).1.toNat) else frm (Fσ σ (frD σ s i).1.toNat) (frD σ s i).2
def dvE (σ : Int → Int) (s i : Nat) : Int → Int := fun k => dσ σ s ((gl (Lσ σ s) i).1 + k)
noncomputable def A_dev (σ : Int → Int) (s i : Int) : Int := if 0 ≤ s ∧ s ≤ 2 then (if 0 ≤ i then (if i < (Lσ σ s.toNat).length then (if (frD σ s.toNat i.toNat).1 = -9 then -9 else dvf (dvE σ s.toNat i.toNat) (dvX σ s.toNat i.toNat).2 (dvX σ s.toNat i.toNat).1.toNat) else -9) else -1) else -1
theorem dvX_r {σ : Int → Int} {s i : Nat} (hV : V σ) (hs : s < 3) (hi : i < (Lσ σ s).length) (hd : (frD σ s i).1 ≠ -9) : (0 ≤ (frD σ s i).1 ∧ (frD σ s i).1 < σ 3) ∧ PV (Fσ σ (frD σ s i).1.toNat) ∧ Gd (dvX σ s i) ∧ (3 ≤ (dvX σ s i).1 ∧ (dvX σ s i).1 ≤ 35) ∧ (dvX σ s i).1 = (gl (Lσ σ s) i).2 ∧ fsG (σ (83 + s)) (gl (Lσ σ s) i) := by
  have ht := σ_tr hV hs
  have hG : fsG (σ (83 + s)) (gl (Lσ σ s) i) := FS_g ht.1.1 hi
  have hPV : ∀ j, j < nσ σ → PV (Fσ σ j) := fun j hj => hV.2.2.2.2.2.1 j (by have := V_n hV; omega)
  have hn := V_n hV
  have hl := dec_len (F := Fσ σ) (n := nσ σ) (e := fun k => dσ σ s ((gl (Lσ σ s) i).1 + k)) (m := (gl (Lσ σ s) i).2) (t := σ 2) hPV hG.2.2.2.1 hd
  have hl : (0 ≤ (frD σ s i).1 ∧ (frD σ s i).1 < nσ σ) ∧ ((frD σ s i).2 ≠ -9 → (frm (Fσ σ (frD σ s i).1.toNat) (frD σ s i).2).1 = (gl (Lσ σ s) i).2) ∧ ((frD σ s i).2 = -9 → (gl (Lσ σ s) i).2 = 3) := hl
  obtain ⟨l1, l2, l3⟩ := hl
  have hp := hPV (frD σ s i).1.toNat (by omega)
  refine ⟨by omega, hp, ?_, ?_, ?_, hG⟩
  · unfold dvX; split
    · exact (Gd_frs hp).1
    · exact (Gd_frm _ hp).1
  · unfold dvX; split
    · exact (Gd_frs hp).2
    · exact (Gd_frm _ hp).2
  · unfold dvX; split
    · rename_i h; rw [l3 h]; rfl
    · rename_i h; exact l2 h
section
variable {p : Nat → Nat} {z l : Nat → Int → Int}
set_option maxHeartbeats 4000000 in
theorem c_worst {n gap : Int} {d : Int → Int} {i : Nat} {x : Dn} (hF : Fs z n d gap) (h0 : 0 ≤ n) (h1 : n ≤ 200) (hd : ∀ k, 0 ≤ k → k < n → 1 ≤ d k ∧ d k ≤ 60000) (hi : i < (FS d n gap).length) (hx : Trx z 32 x) (hg : Gd x) (hm : x.1 = (gl (FS d n gap) i).2) : f_X11_worstDeviation 0 (I3 i) 32 (M p z l) = some (I3 (dvf (fun k => d ((gl (FS d n gap) i).1 + k)) x.2 x.1.toNat), M p z l) := by
  have hG := FS_g h0 hi
  unfold fsG at hG
  have hx0 := hg.1.1
  have e1 : z 32 1 = x.1 := hx.1
  have he : ∀ k, 0 ≤ k → k < x.1 → 1 ≤ (fun k => d ((gl (FS d n gap) i).1 + k)) k ∧ (fun k => d ((gl (FS d n gap) i).1 + k)) k ≤ 60000 := fun k k0 k1 => hd _ (by omega) (by omega)
  have g32 : gI (M p z l) 10 32 1 = some (I3 x.1) := by rw [← e1]; exact gI_T isT_32 1
  have i32 : ∀ {α : Type} (e : Option α), isO (M p z l) 10 32 e = e := fun e => iO_T isT_32 e
  apply W_eq
  unfold f_X11_worstDeviation f_X11_worstDeviation_5
  refine lp_W (fun m st => ∃ k : Nat, st = (0, I3 i, 32, I3 (dvf (fun k => d ((gl (FS d n gap) i).1 + k)) x.2 k), I3 k, M p z l) ∧ (k : Int) ≤ x.1 ∧ m = x.1.toNat - k) (fun m st hst => ?_) ⟨0, rfl, by omega, rfl⟩
  obtain ⟨k, rfl, hk, rfl⟩ := hst
  have hr := dvf_r he hg.2 k hk
  unfold f_X11_worstDeviation_5_b
  by_cases hkx : (k : Int) < x.1
  · have ga := g_at (p := p) (z := z) (l := l) (t := 32) (i := k) isT_32 (by omega) (by omega) (by omega) (by omega)
    rw [tat_in (by omega) (by omega), hx.2 k (by omega) hkx] at ga
    have gd := g_durAt (p := p) (l := l) (i := i) (k := k) hF h0 h1 hi (by omega) (by omega)
    have ra := he k (by omega) hkx
    have rb := hg.2 k (by omega) hkx
    have rq := dq_r (a := d ((gl (FS d n gap) i).1 + k)) (b := x.2 k) ra rb
    have step : dvf (fun k => d ((gl (FS d n gap) i).1 + k)) x.2 (k + 1) = if dvf (fun k => d ((gl (FS d n gap) i).1 + k)) x.2 k < dq (d ((gl (FS d n gap) i).1 + k)) (x.2 k) then dq (d ((gl (FS d n gap) i).1 + k)) (x.2 k) else dvf (fun k => d ((gl (FS d n gap) i).1 + k)) x.2 k := by rw [dvf]
    simp only at ra
    generalize hw : dvf (fun k => d ((gl (FS d n gap) i).1 + k)) x.2 k = w at *
    generalize ha : d ((gl (FS d n gap) i).1 + k) = a at *
    generalize hb : x.2 k = b at *
    have ab : (if 0 ≤ a - b then a - b else -(a - b)) = if a ≤ b then b - a else a - b := by split <;> split <;> omega
    have e2 : 1000 * (if a ≤ b then b - a else a - b) / b = dq a b := rfl
    generalize hv : (if a ≤ b then b - a else a - b) = v at *
    simp (disch := first | assumption | omega) only [↓b_hid, bH_some, ↓hid_W, W_some, I3_a, I3_s, I3_m, I3_n, I3_l, I3_lt, I3_le, I3_e, I3_dv, I3_rm, I3_mx, I3_mn, I3_ab, cI, bI_0, bI_1, rZ_b, up_same, up_row, up_col, xr_some, LQ_r, LQ_l, Int.sub_self, Int.add_zero, Int.zero_add, Int.sub_zero, Int.neg_neg, not_true_eq_false, not_false_eq_true, Int.add_sub_cancel, ↓ite_iH, iH_t, iH_f, bH_iH, ↓bH_bind, xr_iH, ↓xr_bind, W_iH, WI_t, WI_f, aR_34, aR_19, sR_19, gR_0_0, pR_0, gI_0, pI_0, iO_0, gR_0_1, gR_0_3, gR_0_4, gR_0_5, gR_0_6, gR_0_7, gR_0_8, gR_0_9, gR_0_10, gR_0_11, gI_35, pI_35, iO_35, gR_35_0, aI_36, sI_36, gR_35_1, aI_37, sI_37, gR_35_3, g32, i32, ga, gR_0_7, iO_35, gd, ab, e2, f_X11_worstDeviation_55, iH_pos, iH_neg, WI_pos, WI_neg]
    refine ⟨_, ?_, k + 1, by rw [step, Int.natCast_add]; rfl, by omega, rfl⟩
    omega
  · have hkx' : x.1.toNat = k := by omega
    rw [hkx']
    simp (disch := first | assumption | omega) only [↓b_hid, bH_some, ↓hid_W, W_some, I3_a, I3_s, I3_m, I3_n, I3_l, I3_lt, I3_le, I3_e, I3_dv, I3_rm, I3_mx, I3_mn, I3_ab, cI, bI_0, bI_1, rZ_b, up_same, up_row, up_col, xr_some, LQ_r, LQ_l, Int.sub_self, Int.add_zero, Int.zero_add, Int.sub_zero, Int.neg_neg, not_true_eq_false, not_false_eq_true, Int.add_sub_cancel, ↓ite_iH, iH_t, iH_f, bH_iH, ↓bH_bind, xr_iH, ↓xr_bind, W_iH, WI_t, WI_f, aR_34, aR_19, sR_19, gR_0_0, pR_0, gI_0, pI_0, iO_0, gR_0_1, gR_0_3, gR_0_4, gR_0_5, gR_0_6, gR_0_7, gR_0_8, gR_0_9, gR_0_10, gR_0_11, g32, f_X11_worstDeviation_61, iH_pos, iH_neg, WI_pos, WI_neg]
end
set_option maxHeartbeats 4000000 in
theorem x_deviation {s : Int} (hs : -2147483648 ≤ s ∧ s < 2147483648) {i : Int} (hi : -2147483648 ≤ i ∧ i < 2147483648) : CQ (f_X11_deviation 0 (I3 s) (I3 i)) (fun σ => A_dev σ s i) := by
  intro p z l σ hb hV hS
  dsimp only
  have eg : z (p 0) 2 = σ 0 := hS.1.1
  have hr := isB_r hb
  unfold f_X11_deviation A_dev
  by_cases h1 : 0 ≤ s ∧ s ≤ 2
  case neg =>
    rw [if_neg h1]
    simp (disch := first | assumption | omega) only [↓b_hid, bH_some, ↓hid_W, W_some, I3_a, I3_s, I3_m, I3_n, I3_l, I3_lt, I3_le, I3_e, I3_dv, I3_rm, I3_mx, I3_mn, I3_ab, cI, bI_0, bI_1, rZ_b, up_same, up_row, up_col, xr_some, LQ_r, LQ_l, Int.sub_self, Int.add_zero, Int.zero_add, Int.sub_zero, Int.neg_neg, not_true_eq_false, not_false_eq_true, Int.add_sub_cancel, ↓ite_iH, iH_t, iH_f, bH_iH, ↓bH_bind, xr_iH, ↓xr_bind, W_iH, WI_t, WI_f, g_isSlot, bI_f, iH_pos, iH_neg, WI_pos, WI_neg]
    exact ⟨z, l, rfl, FrX_r z⟩
  rw [if_pos h1]
  by_cases h2 : 0 ≤ i
  case neg =>
    rw [if_neg h2]
    simp (disch := first | assumption | omega) only [↓b_hid, bH_some, ↓hid_W, W_some, I3_a, I3_s, I3_m, I3_n, I3_l, I3_lt, I3_le, I3_e, I3_dv, I3_rm, I3_mx, I3_mn, I3_ab, cI, bI_0, bI_1, rZ_b, up_same, up_row, up_col, xr_some, LQ_r, LQ_l, Int.sub_self, Int.add_zero, Int.zero_add, Int.sub_zero, Int.neg_neg, not_true_eq_false, not_false_eq_true, Int.add_sub_cancel, ↓ite_iH, iH_t, iH_f, bH_iH, ↓bH_bind, xr_iH, ↓xr_bind, W_iH, WI_t, WI_f, g_isSlot, bI_t, iH_pos, iH_neg, WI_pos, WI_neg]
    exact ⟨z, l, rfl, FrX_r z⟩
  rw [if_pos h2]
  have hs3 : s.toNat < 3 := by omega
  have ht := σ_tr hV hs3
  simp (disch := first | assumption | omega) only [↓b_hid, bH_some, ↓hid_W, W_some, I3_a, I3_s, I3_m, I3_n, I3_l, I3_lt, I3_le, I3_e, I3_dv, I3_rm, I3_mx, I3_mn, I3_ab, cI, bI_0, bI_1, rZ_b, up_same, up_row, up_col, xr_some, LQ_r, LQ_l, Int.sub_self, Int.add_zero, Int.zero_add, Int.sub_zero, Int.neg_neg, not_true_eq_false, not_false_eq_true, Int.add_sub_cancel, ↓ite_iH, iH_t, iH_f, bH_iH, ↓bH_bind, xr_iH, ↓xr_bind, W_iH, WI_t, WI_f, aR_34, aR_19, sR_19, gR_0_0, pR_0, gI_0, pI_0, iO_0, gR_0_1, gR_0_3, gR_0_4, gR_0_5, gR_0_6, gR_0_7, gR_0_8, gR_0_9, gR_0_10, gR_0_11, gI_B, pI_B, iO_B, gR_B0, gR_B1, aR_B, g_isSlot, bI_t, g_trAt, gR_0_7, iO_35, eg, iH_pos, iH_neg, WI_pos, WI_neg]
  generalize s.toNat = sn at *
  refine W_bH (W_imp (c_split (s := sn) hb hV hS hs3) ?_)
  rintro _ ⟨z1, rfl, a1, a2⟩
  have e : z1 35 2 = (Lσ σ sn).length := a1.2.1
  have hlen := FS_len (d := dσ σ sn) (gap := σ 0) ht.1.1 ht.1.2
  have hlen : (Lσ σ sn).length ≤ 100 := hlen
  have hX1 : FrX z z1 := fun k hk => a2 k (by omega)
  by_cases h4 : i < (Lσ σ sn).length
  case neg =>
    rw [if_neg h4]
    simp (disch := first | assumption | omega) only [↓b_hid, bH_some, ↓hid_W, W_some, I3_a, I3_s, I3_m, I3_n, I3_l, I3_lt, I3_le, I3_e, I3_dv, I3_rm, I3_mx, I3_mn, I3_ab, cI, bI_0, bI_1, rZ_b, up_same, up_row, up_col, xr_some, LQ_r, LQ_l, Int.sub_self, Int.add_zero, Int.zero_add, Int.sub_zero, Int.neg_neg, not_true_eq_false, not_false_eq_true, Int.add_sub_cancel, ↓ite_iH, iH_t, iH_f, bH_iH, ↓bH_bind, xr_iH, ↓xr_bind, W_iH, WI_t, WI_f, aR_34, aR_19, sR_19, gR_0_0, pR_0, gI_0, pI_0, iO_0, gR_0_1, gR_0_3, gR_0_4, gR_0_5, gR_0_6, gR_0_7, gR_0_8, gR_0_9, gR_0_10, gR_0_11, gI_35, pI_35, iO_35, gR_35_0, aI_36, sI_36, gR_35_1, aI_37, sI_37, gR_35_3, gR_0_7, e, iH_pos, iH_neg, WI_pos, WI_neg]
    exact ⟨z1, l, rfl, hX1⟩
  rw [if_pos h4]
  have hii : i = ((i.toNat : Nat) : Int) := by omega
  have hlt : i.toNat < (FS (dσ σ sn) (σ (83 + sn)) (σ 0)).length := by
    have : i.toNat < (Lσ σ sn).length := by omega
    exact this
  generalize i.toNat = n at *
  subst hii
  have hS1 : St z1 (p 0) σ := FrX_S hb hV hX1 hS
  have etol : z1 (p 0) 4 = σ 2 := hS1.1.2.2
  simp (disch := first | assumption | omega) only [↓b_hid, bH_some, ↓hid_W, W_some, I3_a, I3_s, I3_m, I3_n, I3_l, I3_lt, I3_le, I3_e, I3_dv, I3_rm, I3_mx, I3_mn, I3_ab, cI, bI_0, bI_1, rZ_b, up_same, up_row, up_col, xr_some, LQ_r, LQ_l, Int.sub_self, Int.add_zero, Int.zero_add, Int.sub_zero, Int.neg_neg, not_true_eq_false, not_false_eq_true, Int.add_sub_cancel, ↓ite_iH, iH_t, iH_f, bH_iH, ↓bH_bind, xr_iH, ↓xr_bind, W_iH, WI_t, WI_f, aR_34, aR_19, sR_19, gR_0_0, pR_0, gI_0, pI_0, iO_0, gR_0_1, gR_0_3, gR_0_4, gR_0_5, gR_0_6, gR_0_7, gR_0_8, gR_0_9, gR_0_10, gR_0_11, gI_B, pI_B, iO_B, gR_B0, gR_B1, aR_B, gI_35, pI_35, iO_35, gR_35_0, aI_36, sI_36, gR_35_1, aI_37, sI_37, gR_35_3, gR_0_7, gR_0_8, e, iO_40, etol, iH_pos, iH_neg, WI_pos, WI_neg]
  refine W_bH (W_imp (c_decode (i := n) (tol := σ 2) hb hV hS1 a1 ht.1.1 ht.1.2 hlt hV.2.2.1 (fun c c0 c1 => by have := ht.2 c c0 c1; omega)) ?_)
  rintro _ ⟨z6, l6, rfl, g1, g2, g3, g4⟩
  have g1 : z6 40 0 = (frD σ sn n).1 := g1
  have g2 : z6 40 1 = (frD σ sn n).2 := g2
  have hX6 : FrX z z6 := FrX_t hX1 (fun k hk => g3 k (by omega) (by omega))
  have hdr := frD_r hV sn n
  have hv3 := hV.2.2.2.1
  have gd := g_isDec (p := p) (l := l6) g1 (by omega)
  have gc := g_isCod (p := p) (l := l6) g2 (by omega)
  by_cases hd : (frD σ sn n).1 = -9
  · rw [bI_f (fun h => h hd)] at gd
    rw [if_pos hd]
    simp (disch := first | assumption | omega) only [↓b_hid, bH_some, ↓hid_W, W_some, I3_a, I3_s, I3_m, I3_n, I3_l, I3_lt, I3_le, I3_e, I3_dv, I3_rm, I3_mx, I3_mn, I3_ab, cI, bI_0, bI_1, rZ_b, up_same, up_row, up_col, xr_some, LQ_r, LQ_l, Int.sub_self, Int.add_zero, Int.zero_add, Int.sub_zero, Int.neg_neg, not_true_eq_false, not_false_eq_true, Int.add_sub_cancel, ↓ite_iH, iH_t, iH_f, bH_iH, ↓bH_bind, xr_iH, ↓xr_bind, W_iH, WI_t, WI_f, aR_34, aR_19, sR_19, gR_0_0, pR_0, gI_0, pI_0, iO_0, gR_0_1, gR_0_3, gR_0_4, gR_0_5, gR_0_6, gR_0_7, gR_0_8, gR_0_9, gR_0_10, gR_0_11, gI_40, pI_40, iO_40, gR_40_2, aI_41, sI_41, gR_40_5, gR_0_8, gd, iH_pos, iH_neg, WI_pos, WI_neg]
    exact ⟨z6, l6, rfl, hX6⟩
  rw [bI_t hd] at gd
  rw [if_neg hd]
  obtain ⟨x1, x2, x3, x4, x5, x6⟩ := dvX_r hV hs3 hlt hd
  have hS6 : St z6 (p 0) σ := FrX_S hb hV hX6 hS
  have hTb := isTb_B hb
  obtain ⟨c1, c2, c3⟩ := c_pr (q := (frD σ sn n).1.toNat) hV hS6 (by omega)
  have hP := isP_T hTb (i := (frD σ sn n).1.toNat) (by omega)
  have gA := g_pAt (p := p) (z := z6) (l := l6) (i := (frD σ sn n).1) hTb (by omega) (by omega)
  have hQr : p 0 + 1 + 4 + (frD σ sn n).1.toNat ≠ 32 ∧ p 0 + 1 + 4 + (frD σ sn n).1.toNat ≠ 33 := by omega
  have fin : ∀ z7 : Nat → Int → Int, Trx z7 32 (dvX σ sn n) → Fr 32 z6 z7 → WP (f_X11_deviation_142 0 (I3 n) (M p z7 l6)) (fun r => ∃ z' l', r = (I3 (dvf (dvE σ sn n) (dvX σ sn n).2 (dvX σ sn n).1.toNat), M p z' l') ∧ FrX z z') := by
    intro z7 y1 y2
    have hF7 : Fs z7 (σ (83 + sn)) (dσ σ sn) (σ 0) := by
      obtain ⟨f1, f2, f3⟩ := a1
      have q : ∀ k, 35 ≤ k → k < 40 → z7 k = z1 k := fun k k0 k1 => by rw [y2 k (by omega) (by omega), g3 k (by omega) (by omega)]
      exact ⟨Tr_congr (q 38 (by decide) (by decide)) (q 39 (by decide) (by decide)) f1, by rw [q 35 (by decide) (by decide)]; exact f2, by rw [q 36 (by decide) (by decide), q 37 (by decide) (by decide)]; exact f3⟩
    have hw := c_worst (p := p) (l := l6) hF7 ht.1.1 ht.1.2 ht.2 hlt y1 x3 x5
    have hw : f_X11_worstDeviation 0 (I3 n) 32 (M p z7 l6) = some (I3 (dvf (dvE σ sn n) (dvX σ sn n).2 (dvX σ sn n).1.toNat), M p z7 l6) := hw
    unfold f_X11_deviation_142
    simp (disch := first | assumption | omega) only [↓b_hid, bH_some, ↓hid_W, W_some, I3_a, I3_s, I3_m, I3_n, I3_l, I3_lt, I3_le, I3_e, I3_dv, I3_rm, I3_mx, I3_mn, I3_ab, cI, bI_0, bI_1, rZ_b, up_same, up_row, up_col, xr_some, LQ_r, LQ_l, Int.sub_self, Int.add_zero, Int.zero_add, Int.sub_zero, Int.neg_neg, not_true_eq_false, not_false_eq_true, Int.add_sub_cancel, ↓ite_iH, iH_t, iH_f, bH_iH, ↓bH_bind, xr_iH, ↓xr_bind, W_iH, WI_t, WI_f, aR_34, aR_19, sR_19, gR_0_0, pR_0, gI_0, pI_0, iO_0, gR_0_1, gR_0_3, gR_0_4, gR_0_5, gR_0_6, gR_0_7, gR_0_8, gR_0_9, gR_0_10, gR_0_11, gR_0_5, hw]
    exact ⟨z7, l6, rfl, FrX_t hX6 (fun k hk => y2 k (by omega) (by omega))⟩
  by_cases hc : (frD σ sn n).2 = -9
  · rw [bI_f (fun h => h hc)] at gc
    have hw := w_writeShort (p := p) (z := z6) (l := l6) (t := 32) (q := p 0 + 1 + 4 + (frD σ sn n).1.toNat) (f := z6 (p 0 + 1 + 4 + (frD σ sn n).1.toNat)) isT_32 hP hQr.1 hQr.2 rfl c3
    have hx0 : frs (z6 (p 0 + 1 + 4 + (frD σ sn n).1.toNat)) = dvX σ sn n := by unfold dvX; rw [if_pos hc]; exact frs_c c1
    rw [hx0] at hw
    generalize p 0 + 1 + 4 + (frD σ sn n).1.toNat = Q0 at *
    simp (disch := first | assumption | omega) only [↓b_hid, bH_some, ↓hid_W, W_some, I3_a, I3_s, I3_m, I3_n, I3_l, I3_lt, I3_le, I3_e, I3_dv, I3_rm, I3_mx, I3_mn, I3_ab, cI, bI_0, bI_1, rZ_b, up_same, up_row, up_col, xr_some, LQ_r, LQ_l, Int.sub_self, Int.add_zero, Int.zero_add, Int.sub_zero, Int.neg_neg, not_true_eq_false, not_false_eq_true, Int.add_sub_cancel, ↓ite_iH, iH_t, iH_f, bH_iH, ↓bH_bind, xr_iH, ↓xr_bind, W_iH, WI_t, WI_f, aR_34, aR_19, sR_19, gR_0_0, pR_0, gI_0, pI_0, iO_0, gR_0_1, gR_0_3, gR_0_4, gR_0_5, gR_0_6, gR_0_7, gR_0_8, gR_0_9, gR_0_10, gR_0_11, gI_B, pI_B, iO_B, gR_B0, gR_B1, aR_B, gI_40, pI_40, iO_40, gR_40_2, aI_41, sI_41, gR_40_5, gR_0_8, gR_0_5, gd, g1, iO_Tb, gA, gc, iO_P, iH_pos, iH_neg, WI_pos, WI_neg]
    refine W_bH (W_imp hw ?_)
    rintro _ ⟨z7, rfl, y1, y2⟩
    exact fin z7 y1 y2
  · rw [bI_t hc] at gc
    have hw := w_writeFrame (p := p) (z := z6) (l := l6) (t := 32) (q := p 0 + 1 + 4 + (frD σ sn n).1.toNat) (c := (frD σ sn n).2) (f := z6 (p 0 + 1 + 4 + (frD σ sn n).1.toNat)) isT_32 hP hQr.1 hQr.2 rfl (by omega) c3
    have hx0 : frm (z6 (p 0 + 1 + 4 + (frD σ sn n).1.toNat)) (frD σ sn n).2 = dvX σ sn n := by unfold dvX; rw [if_neg hc]; exact frm_c c1 _
    rw [hx0] at hw
    generalize p 0 + 1 + 4 + (frD σ sn n).1.toNat = Q0 at *
    simp (disch := first | assumption | omega) only [↓b_hid, bH_some, ↓hid_W, W_some, I3_a, I3_s, I3_m, I3_n, I3_l, I3_lt, I3_le, I3_e, I3_dv, I3_rm, I3_mx, I3_mn, I3_ab, cI, bI_0, bI_1, rZ_b, up_same, up_row, up_col, xr_some, LQ_r, LQ_l, Int.sub_self, Int.add_zero, Int.zero_add, Int.sub_zero, Int.neg_neg, not_true_eq_false, not_false_eq_true, Int.add_sub_cancel, ↓ite_iH, iH_t, iH_f, bH_iH, ↓bH_bind, xr_iH, ↓xr_bind, W_iH, WI_t, WI_f, aR_34, aR_19, sR_19, gR_0_0, pR_0, gI_0, pI_0, iO_0, gR_0_1, gR_0_3, gR_0_4, gR_0_5, gR_0_6, gR_0_7, gR_0_8, gR_0_9, gR_0_10, gR_0_11, gI_B, pI_B, iO_B, gR_B0, gR_B1, aR_B, gI_40, pI_40, iO_40, gR_40_2, aI_41, sI_41, gR_40_5, gR_0_8, gR_0_5, gd, g1, g2, iO_Tb, gA, gc, iO_P, iH_pos, iH_neg, WI_pos, WI_neg]
    refine W_bH (W_imp hw ?_)
    rintro _ ⟨z7, rfl, y1, y2⟩
    exact fin z7 y1 y2
