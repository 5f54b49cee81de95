/-! Presses: what both sides find. -/
/-- held, the latest's place, its protocol, its code, presses, strays; protocols, codes, counts -/
abbrev PT : Type := (Int × Int × Int × Int × Int × Int) × (Int → Int) × (Int → Int) × (Int → Int)
def st1 (P : Int → Int) (n v : Int) : Int → Int := fun i => if i = n then v else P i
abbrev pgo (D : Int × Int) (nb hold : Int) (rep : Int → Int) (s : PT) : Prop := s.1.1 = 1 ∧ nb ≤ hold ∧ D.1 ≠ -9 ∧ D.1 = s.1.2.2.1 ∧ (D.2 = -9 ∨ D.2 = s.1.2.2.2.1 ∧ rep D.1 ≠ 1)
def pst (D : Int × Int) (nb hold : Int) (rep : Int → Int) (s : PT) : PT :=
  if pgo D nb hold rep s then (s.1, s.2.1, s.2.2.1, if 0 ≤ s.1.2.1 then st1 s.2.2.2 s.1.2.1 (s.2.2.2 s.1.2.1 + 1) else s.2.2.2)
  else if D.2 ≠ -9 then (if s.1.2.2.2.2.1 < 30 then ((1, s.1.2.2.2.2.1, D.1, D.2, s.1.2.2.2.2.1 + 1, s.1.2.2.2.2.2), st1 s.2.1 s.1.2.2.2.2.1 D.1, st1 s.2.2.1 s.1.2.2.2.2.1 D.2, st1 s.2.2.2 s.1.2.2.2.2.1 1) else ((1, -1, D.1, D.2, s.1.2.2.2.2.1, s.1.2.2.2.2.2), s.2))
  else ((0, s.1.2.1, s.1.2.2.1, s.1.2.2.2.1, s.1.2.2.2.2.1, s.1.2.2.2.2.2 + 1), s.2)
def psf (D : Nat → Int × Int) (nb : Nat → Int) (hold : Int) (rep : Int → Int) : Nat → PT
  | 0 => ((0, -1, -1, -1, 0, 0), fun _ => 0, fun _ => 0, fun _ => 0)
  | i + 1 => pst (D i) (nb i) hold rep (psf D nb hold rep i)
/-- what holds of it -/
def PI (nP : Nat) (s : PT) (i : Nat) : Prop := (s.1.1 = 0 ∨ s.1.1 = 1) ∧ (-1 ≤ s.1.2.1 ∧ s.1.2.1 ≤ 30) ∧ (s.1.1 = 1 → 0 ≤ s.1.2.1 → s.1.2.1 = s.1.2.2.2.2.1 - 1) ∧ (-1 ≤ s.1.2.2.1 ∧ s.1.2.2.1 ≤ 6) ∧ (-9 ≤ s.1.2.2.2.1 ∧ s.1.2.2.2.1 ≤ 1000000) ∧ (0 ≤ s.1.2.2.2.2.1 ∧ s.1.2.2.2.2.1 ≤ 30) ∧ (0 ≤ s.1.2.2.2.2.2 ∧ s.1.2.2.2.2.2 ≤ i) ∧ (∀ k, 0 ≤ k → k < s.1.2.2.2.2.1 → 0 ≤ s.2.1 k ∧ s.2.1 k < nP ∧ 0 ≤ s.2.2.1 k ∧ s.2.2.1 k ≤ 1000000)
theorem PI_st {nP i : Nat} {D : Int × Int} {nb hold : Int} {rep : Int → Int} {s : PT} (hn : nP ≤ 6) (hD : D = (-9, -9) ∨ ∃ j : Nat, j < nP ∧ D.1 = j ∧ (D.2 = -9 ∨ 0 ≤ D.2 ∧ D.2 ≤ 1000000)) (h : PI nP s i) : PI nP (pst D nb hold rep s) (i + 1) := by
  obtain ⟨⟨h, lk, lp, lc, n, st⟩, P, C, K⟩ := s
  obtain ⟨a1, a2, a3, a4, a5, a6, a7, a8⟩ := h
  simp only at a1 a2 a3 a4 a5 a6 a7 a8
  unfold pst
  split
  · exact ⟨a1, a2, a3, a4, a5, a6, ⟨a7.1, by simp only; omega⟩, a8⟩
  · split
    · rename_i hc
      rcases hD with hD | ⟨j, hj, hD1, hD2⟩
      · rw [hD] at hc; exact absurd rfl hc
      · split
        · refine ⟨Or.inr rfl, ?_, ?_, ?_, ?_, ?_, ⟨a7.1, ?_⟩, ?_⟩
          · simp only; simp only at *; omega
          · simp only; intro _ _; omega
          · simp only; omega
          · simp only; omega
          · simp only; simp only at *; omega
          · simp only; omega
          · intro k k0 k1
            simp only [st1] at k1 ⊢
            by_cases hk : k = n
            · rw [if_pos hk, if_pos hk]; omega
            · rw [if_neg hk, if_neg hk]; exact a8 k k0 (by omega)
        · refine ⟨Or.inr rfl, ?_, ?_, ?_, ?_, a6, ⟨a7.1, ?_⟩, a8⟩
          · simp only; omega
          · simp only; intro _ h; omega
          · simp only; omega
          · simp only; omega
          · simp only; omega
    · refine ⟨Or.inl rfl, a2, ?_, a4, a5, a6, ⟨?_, ?_⟩, a8⟩
      · simp only; intro h; omega
      · simp only; omega
      · simp only; omega
section
variable {p : Nat → Nat} {z l : Nat → Int → Int}
/-- the space before frame i -/
def nbf (σ d : Int → Int) (n : Int) (i : Nat) : Int := if i = 0 then 0 else d ((gl (FS d n (σ 0)) i).1 - 1)
def repσ (σ : Int → Int) : Int → Int := fun q => σ (4 + 9 * q + 8)
noncomputable def psσ (σ : Int → Int) (s : Nat) : Nat → PT := psf (dcd σ (dσ σ s) (σ (83 + s)) (σ 2)) (nbf σ (dσ σ s) (σ (83 + s))) (σ 1) (repσ σ)
noncomputable def lnσ (σ : Int → Int) (s : Nat) : Nat := (FS (dσ σ s) (σ (83 + s)) (σ 0)).length
theorem PI_f {σ : Int → Int} {s : Nat} (hV : V σ) : ∀ i, PI (nσ σ) (psσ σ s i) i
  | 0 => by
    refine ⟨Or.inl rfl, by simp [psσ, psf], by simp [psσ, psf], by simp [psσ, psf], by simp [psσ, psf], by simp [psσ, psf], by simp [psσ, psf], ?_⟩
    intro k k0 k1; simp [psσ, psf] at k1; omega
  | i + 1 => PI_st (V_n hV).2 (dcd_r i hV) (PI_f hV i)
/-- the class's PressList holds it -/
def Pc (z : Nat → Int → Int) (s : PT) : Prop := z 43 3 = s.1.2.2.2.2.1 ∧ z 43 4 = s.1.2.2.2.2.2 ∧ (s.1.1 = 1 → z 43 5 = (if 0 ≤ s.1.2.1 then 1 else 0) ∧ z 43 6 = s.1.2.2.1 ∧ z 43 7 = s.1.2.2.2.1) ∧ ∀ k, 0 ≤ k → k < s.1.2.2.2.2.1 → z 44 k = s.2.1 k ∧ z 45 k = s.2.2.1 k ∧ z 46 k = s.2.2.2 k
def FrP (z z' : Nat → Int → Int) : Prop := ∀ k, k < 35 ∨ 47 ≤ k → z' k = z k
theorem nb_r {σ d : Int → Int} {n : Int} {i : Nat} (h0 : 0 ≤ n) (h1 : n ≤ 200) (hi : i < (FS d n (σ 0)).length) (hd : ∀ k, 0 ≤ k → k < n → 1 ≤ d k ∧ d k ≤ 60000) : 0 ≤ nbf σ d n i ∧ nbf σ d n i ≤ 60000 := by
  unfold nbf
  split
  · omega
  · rename_i h
    obtain ⟨j, rfl⟩ : ∃ j, i = j + 1 := ⟨i - 1, by omega⟩
    have := FS_next hi
    obtain ⟨g1, g2, g3, g4, g5⟩ := FS_g h0 hi
    have := hd ((gl (FS d n (σ 0)) (j + 1)).1 - 1) (by omega) (by omega)
    omega
theorem w_find {b s : Nat} {σ : Int → Int} (hb : isB b) (hV : V σ) (hS : St z b σ) (hs : s < 3) : WP (f_X5_find 43 b (I3 s) 35 40 (M p z l)) (fun μ => ∃ z' l', μ = M p z' l' ∧ Pc z' (psσ σ s (lnσ σ s)) ∧ FrP z z' ∧ ∀ k, k ≠ 42 → l' k = l k) := by
  have hv := hV.2.2.2.2.2.2.2 s hs
  have hr := isB_r hb
  have hlen := FS_len (d := dσ σ s) (gap := σ 0) hv.1.1 hv.1.2
  have hln : lnσ σ s ≤ 100 := hlen
  have e4 : (s : Int).toNat = s := Int.toNat_natCast s
  have g0 := hS.1.1
  have gt := hS.1.2.2
  have gh := hS.1.2.1
  have hd60 : ∀ k, 0 ≤ k → k < σ (83 + s) → 1 ≤ dσ σ s k ∧ dσ σ s k ≤ 60000 := fun k k0 k1 => hv.2 k k0 k1
  unfold f_X5_find
  simp (disch := first | assumption | omega) only [↓b_hid, bH_some, ↓hid_W, W_some, I3_a, I3_s, I3_m, I3_n, I3_l, I3_lt, I3_le, I3_e, I3_dv, I3_rm, I3_mx, I3_mn, I3_ab, cI, bI_0, bI_1, rZ_b, up_same, up_row, up_col, xr_some, LQ_r, LQ_l, Int.sub_self, Int.add_zero, Int.zero_add, Int.sub_zero, Int.neg_neg, not_true_eq_false, not_false_eq_true, Int.add_sub_cancel, ↓ite_iH, iH_t, iH_f, bH_iH, ↓bH_bind, xr_iH, ↓xr_bind, W_iH, WI_t, WI_f, gI_B, pI_B, iO_B, gR_B0, gR_B1, aR_B, g_trAt, e4, g0]
  have hi3 : isO (M p z l) 3 35 (f_X3_split 35 (b + 12 + 2 * s) (I3 (σ 0)) (M p z l)) = f_X3_split 35 (b + 12 + 2 * s) (I3 (σ 0)) (M p z l) := iO_35 _
  simp (disch := first | assumption | omega) only [↓b_hid, bH_some, ↓hid_W, W_some, I3_a, I3_s, I3_m, I3_n, I3_l, I3_lt, I3_le, I3_e, I3_dv, I3_rm, I3_mx, I3_mn, I3_ab, cI, bI_0, bI_1, rZ_b, up_same, up_row, up_col, xr_some, LQ_r, LQ_l, Int.sub_self, Int.add_zero, Int.zero_add, Int.sub_zero, Int.neg_neg, not_true_eq_false, not_false_eq_true, Int.add_sub_cancel, ↓ite_iH, iH_t, iH_f, bH_iH, ↓bH_bind, xr_iH, ↓xr_bind, W_iH, WI_t, WI_f, gI_35, pI_35, iO_35, gR_35_0, aI_36, sI_36, gR_35_1, aI_37, sI_37, gR_35_3]
  refine W_bH (W_imp (c_split hb hV hS hs) ?_)
  rintro _ ⟨z1, rfl, a1, a2⟩
  simp (disch := first | assumption | omega) only [↓b_hid, bH_some, ↓hid_W, W_some, I3_a, I3_s, I3_m, I3_n, I3_l, I3_lt, I3_le, I3_e, I3_dv, I3_rm, I3_mx, I3_mn, I3_ab, cI, bI_0, bI_1, rZ_b, up_same, up_row, up_col, xr_some, LQ_r, LQ_l, Int.sub_self, Int.add_zero, Int.zero_add, Int.sub_zero, Int.neg_neg, not_true_eq_false, not_false_eq_true, Int.add_sub_cancel, ↓ite_iH, iH_t, iH_f, bH_iH, ↓bH_bind, xr_iH, ↓xr_bind, W_iH, WI_t, WI_f, gI_43, pI_43, iO_43, gR_43_0, aI_44, sI_44, gR_43_1, aI_45, sI_45, gR_43_2, aI_46, sI_46, pZ_43]
  generalize hz2 : up (up z1 43 3 0) 43 4 0 = z2
  have hF2 : FrP z z2 := fun k hk => by rw [← hz2, up_row (by omega), up_row (by omega)]; exact a2 k (by omega)
  have hFs2 : Fs z2 (σ (83 + s)) (dσ σ s) (σ 0) := by
    obtain ⟨t1, t2, t3⟩ := a1
    have r : ∀ k, k < 43 → z2 k = z1 k := fun k hk => by rw [← hz2, up_row (by omega), up_row (by omega)]
    refine ⟨Tr_congr (r 38 (by decide)) (r 39 (by decide)) t1, ?_, ?_⟩
    · rw [r 35 (by decide)]; exact t2
    · rw [r 36 (by decide), r 37 (by decide)]; exact t3
  unfold f_X5_find_29
  refine lp_W (fun m st => ∃ (i : Nat) (z' l' : Nat → Int → Int), st = (43, b, 35, 40, I3 (psσ σ s i).1.1, I3 i, M p z' l') ∧ i ≤ lnσ σ s ∧ m = lnσ σ s - i ∧ Pc z' (psσ σ s i) ∧ Fs z' (σ (83 + s)) (dσ σ s) (σ 0) ∧ FrP z z' ∧ ∀ k, k ≠ 42 → l' k = l k) (fun m st hst => ?_) ⟨0, z2, l, rfl, by omega, rfl, ⟨?_, ?_, ?_, ?_⟩, hFs2, hF2, fun _ _ => rfl⟩
  · obtain ⟨i, z', l', rfl, hi, rfl, hP, hFs, hF, hl⟩ := hst
    have hI := PI_f (s := s) hV i
    have hS' : St z' b σ := St_congr hV (fun k k0 k1 => hF k (by omega)) hS
    have g2 : z' 35 2 = lnσ σ s := hFs.2.1
    have g3 := hS'.1.2.1
    have g4 := hS'.1.2.2
    unfold f_X5_find_29_b
    by_cases hil : i < lnσ σ s
    · have hnb := nb_r (σ := σ) hv.1.1 hv.1.2 hil hd60
      have hnext : psσ σ s (i + 1) = pst (dcd σ (dσ σ s) (σ (83 + s)) (σ 2) i) (nbf σ (dσ σ s) (σ (83 + s)) i) (σ 1) (repσ σ) (psσ σ s i) := rfl
      have hDr := dcd_r (d := dσ σ s) (n := σ (83 + s)) (tol := σ 2) i hV
      simp (disch := first | assumption | omega) only [↓b_hid, bH_some, ↓hid_W, W_some, I3_a, I3_s, I3_m, I3_n, I3_l, I3_lt, I3_le, I3_e, I3_dv, I3_rm, I3_mx, I3_mn, I3_ab, cI, bI_0, bI_1, rZ_b, up_same, up_row, up_col, xr_some, LQ_r, LQ_l, Int.sub_self, Int.add_zero, Int.zero_add, Int.sub_zero, Int.neg_neg, not_true_eq_false, not_false_eq_true, Int.add_sub_cancel, ↓ite_iH, iH_t, iH_f, bH_iH, ↓bH_bind, xr_iH, ↓xr_bind, W_iH, WI_t, WI_f, gI_35, pI_35, iO_35, gR_35_0, aI_36, sI_36, gR_35_1, aI_37, sI_37, gR_35_3, gI_B, pI_B, iO_B, gR_B0, gR_B1, aR_B, g2, g4, iH_pos, iH_neg, WI_pos, WI_neg]
      simp (disch := first | assumption | omega) only [↓b_hid, bH_some, ↓hid_W, W_some, I3_a, I3_s, I3_m, I3_n, I3_l, I3_lt, I3_le, I3_e, I3_dv, I3_rm, I3_mx, I3_mn, I3_ab, cI, bI_0, bI_1, rZ_b, up_same, up_row, up_col, xr_some, LQ_r, LQ_l, Int.sub_self, Int.add_zero, Int.zero_add, Int.sub_zero, Int.neg_neg, not_true_eq_false, not_false_eq_true, Int.add_sub_cancel, ↓ite_iH, iH_t, iH_f, bH_iH, ↓bH_bind, xr_iH, ↓xr_bind, W_iH, WI_t, WI_f, gI_40, pI_40, iO_40, gR_40_2, aI_41, sI_41, gR_40_5]
      refine W_bH (W_imp (c_decode hb hV hS' hFs hv.1.1 hv.1.2 hil hV.2.2.1 (fun k k0 k1 => by have := hd60 k k0 k1; omega)) ?_)
      rintro _ ⟨z3, l3, rfl, c1, c2, c3, c4⟩
      have hFs3 : Fs z3 (σ (83 + s)) (dσ σ s) (σ 0) := by
        obtain ⟨t1, t2, t3⟩ := hFs
        refine ⟨Tr_congr (c3 38 (by decide) (by decide)) (c3 39 (by decide) (by decide)) t1, ?_, ?_⟩
        · rw [c3 35 (by decide) (by decide)]; exact t2
        · rw [c3 36 (by decide) (by decide), c3 37 (by decide) (by decide)]; exact t3
      have hsb := g_spB (p := p) (l := l3) hFs3 hv.1.1 hv.1.2 hil
      have hsb : f_X3_spaceBefore 35 (I3 i) (M p z3 l3) = some (I3 (nbf σ (dσ σ s) (σ (83 + s)) i), M p z3 l3) := hsb
      have g3' : z3 b 3 = σ 1 := by rw [c3 b (by omega) (by omega)]; exact g3
      have hσ1 := hV.2.1
      have hF3 : FrP z z3 := fun k hk => (c3 k (by omega) (by omega)).trans (hF k hk)
      have hS3 : St z3 b σ := St_congr hV (fun k k0 k1 => hF3 k (by omega)) hS
      have hP3 : Pc z3 (psσ σ s i) := by
        obtain ⟨q1, q2, q3, q4⟩ := hP
        unfold Pc
        rw [c3 43 (by decide) (by decide), c3 44 (by decide) (by decide), c3 45 (by decide) (by decide), c3 46 (by decide) (by decide)]
        exact ⟨q1, q2, q3, q4⟩
      have hl3 : ∀ k, k ≠ 42 → l3 k = l k := fun k hk => (c4 k hk).trans (hl k hk)
      rw [show psσ σ s (lnσ σ s) = psσ σ s (lnσ σ s) from rfl]
      generalize hD : dcd σ (dσ σ s) (σ (83 + s)) (σ 2) i = D at *
      generalize hnbe : nbf σ (dσ σ s) (σ (83 + s)) i = nb at *
      generalize hst : psσ σ s i = t at *
      obtain ⟨⟨h, lk, lp, lc, n, st⟩, P, C, K⟩ := t
      obtain ⟨i1, i2, i3, i4, i5, i6, i7, i8⟩ := hI
      obtain ⟨q1, q2, q3, q4⟩ := hP3
      simp only at i1 i2 i3 i4 i5 i6 i7 i8 q1 q2 q3 q4
      have hDr1 : -9 ≤ D.1 ∧ D.1 ≤ 1000000 := by
        rcases hDr with h | ⟨j, h1, h2, _⟩
        · rw [h]; decide
        · have := V_n hV; omega
      have hDr2 : -9 ≤ D.2 ∧ D.2 ≤ 1000000 := by
        rcases hDr with h | ⟨j, h1, h2, h3⟩
        · rw [h]; decide
        · omega
      have hDc : D.2 ≠ -9 → 0 ≤ D.1 ∧ D.1 < nσ σ ∧ 0 ≤ D.2 := by
        intro hc
        rcases hDr with h | ⟨j, h1, h2, h3⟩
        · rw [h] at hc; exact absurd rfl hc
        · omega
      have done : ∀ (hv : Int) (z4 : Nat → Int → Int), hv = (psσ σ s (i + 1)).1.1 → Pc z4 (psσ σ s (i + 1)) → (∀ k, k < 43 ∨ 47 ≤ k → z4 k = z3 k) → WP (f_X5_find_137 43 b 35 40 (I3 hv) (I3 i) (M p z4 l3)) (LQ (fun μ => ∃ z' l', μ = M p z' l' ∧ Pc z' (psσ σ s (lnσ σ s)) ∧ FrP z z' ∧ ∀ k, k ≠ 42 → l' k = l k) (fun m st => ∃ (i : Nat) (z' l' : Nat → Int → Int), st = (43, b, 35, 40, I3 (psσ σ s i).1.1, I3 i, M p z' l') ∧ i ≤ lnσ σ s ∧ m = lnσ σ s - i ∧ Pc z' (psσ σ s i) ∧ Fs z' (σ (83 + s)) (dσ σ s) (σ 0) ∧ FrP z z' ∧ ∀ k, k ≠ 42 → l' k = l k) (lnσ σ s - i)) := by
        intro hv' z4 he hP4 hz4
        unfold f_X5_find_137
        simp (disch := first | assumption | omega) only [↓b_hid, bH_some, ↓hid_W, W_some, I3_a, I3_s, I3_m, I3_n, I3_l, I3_lt, I3_le, I3_e, I3_dv, I3_rm, I3_mx, I3_mn, I3_ab, cI, bI_0, bI_1, rZ_b, up_same, up_row, up_col, xr_some, LQ_r, LQ_l, Int.sub_self, Int.add_zero, Int.zero_add, Int.sub_zero, Int.neg_neg, not_true_eq_false, not_false_eq_true, Int.add_sub_cancel, ↓ite_iH, iH_t, iH_f, bH_iH, ↓bH_bind, xr_iH, ↓xr_bind, W_iH, WI_t, WI_f]
        refine ⟨_, by omega, i + 1, z4, l3, by rw [he, Int.natCast_add]; rfl, by omega, rfl, hP4, ?_, fun k hk => (hz4 k (by omega)).trans (hF3 k hk), hl3⟩
        obtain ⟨t1, t2, t3⟩ := hFs3
        refine ⟨Tr_congr (hz4 38 (by decide)) (hz4 39 (by decide)) t1, ?_, ?_⟩
        · rw [hz4 35 (by decide)]; exact t2
        · rw [hz4 36 (by decide), hz4 37 (by decide)]; exact t3
      -- not held on
      have new : ¬pgo D nb (σ 1) (repσ σ) ((h, lk, lp, lc, n, st), P, C, K) → WP (f_X5_find_104 43 b 35 40 (I3 i) (M p z3 l3)) (LQ (fun μ => ∃ z' l', μ = M p z' l' ∧ Pc z' (psσ σ s (lnσ σ s)) ∧ FrP z z' ∧ ∀ k, k ≠ 42 → l' k = l k) (fun m st => ∃ (i : Nat) (z' l' : Nat → Int → Int), st = (43, b, 35, 40, I3 (psσ σ s i).1.1, I3 i, M p z' l') ∧ i ≤ lnσ σ s ∧ m = lnσ σ s - i ∧ Pc z' (psσ σ s i) ∧ Fs z' (σ (83 + s)) (dσ σ s) (σ 0) ∧ FrP z z' ∧ ∀ k, k ≠ 42 → l' k = l k) (lnσ σ s - i)) := by
        intro hno
        have hic := g_isCod (p := p) (l := l3) c2 hDr2
        unfold pst at hnext
        rw [if_neg hno] at hnext
        simp only at hnext
        unfold f_X5_find_104
        simp (disch := first | assumption | omega) only [↓b_hid, bH_some, ↓hid_W, W_some, I3_a, I3_s, I3_m, I3_n, I3_l, I3_lt, I3_le, I3_e, I3_dv, I3_rm, I3_mx, I3_mn, I3_ab, cI, bI_0, bI_1, rZ_b, up_same, up_row, up_col, xr_some, LQ_r, LQ_l, Int.sub_self, Int.add_zero, Int.zero_add, Int.sub_zero, Int.neg_neg, not_true_eq_false, not_false_eq_true, Int.add_sub_cancel, ↓ite_iH, iH_t, iH_f, bH_iH, ↓bH_bind, xr_iH, ↓xr_bind, W_iH, WI_t, WI_f, gI_40, pI_40, iO_40, gR_40_2, aI_41, sI_41, gR_40_5, hic]
        refine WI_i (fun h9 => ?_) (fun h9 => ?_)
        · rw [if_neg h9] at hnext
          simp (disch := first | assumption | omega) only [↓b_hid, bH_some, ↓hid_W, W_some, I3_a, I3_s, I3_m, I3_n, I3_l, I3_lt, I3_le, I3_e, I3_dv, I3_rm, I3_mx, I3_mn, I3_ab, cI, bI_0, bI_1, rZ_b, up_same, up_row, up_col, xr_some, LQ_r, LQ_l, Int.sub_self, Int.add_zero, Int.zero_add, Int.sub_zero, Int.neg_neg, not_true_eq_false, not_false_eq_true, Int.add_sub_cancel, ↓ite_iH, iH_t, iH_f, bH_iH, ↓bH_bind, xr_iH, ↓xr_bind, W_iH, WI_t, WI_f, gI_43, pI_43, iO_43, gR_43_0, aI_44, sI_44, gR_43_1, aI_45, sI_45, gR_43_2, aI_46, sI_46, pZ_43, q2]
          refine done 0 _ (by rw [hnext]) ?_ (fun k hk => up_row (by omega) _ _ _)
          rw [hnext]
          refine ⟨by rw [up_col (by decide)]; exact q1, by rw [up_same], fun h => absurd (show (0 : Int) = 1 from h) (by decide), ?_⟩
          intro k k0 k1
          rw [up_row (by decide), up_row (by decide), up_row (by decide)]; exact q4 k k0 k1
        · have h9' : D.2 ≠ -9 := Classical.byContradiction h9
          rw [if_pos h9'] at hnext
          obtain ⟨d1, d2, d3⟩ := hDc h9'
          simp (disch := first | assumption | omega) only [↓b_hid, bH_some, ↓hid_W, W_some, I3_a, I3_s, I3_m, I3_n, I3_l, I3_lt, I3_le, I3_e, I3_dv, I3_rm, I3_mx, I3_mn, I3_ab, cI, bI_0, bI_1, rZ_b, up_same, up_row, up_col, xr_some, LQ_r, LQ_l, Int.sub_self, Int.add_zero, Int.zero_add, Int.sub_zero, Int.neg_neg, not_true_eq_false, not_false_eq_true, Int.add_sub_cancel, ↓ite_iH, iH_t, iH_f, bH_iH, ↓bH_bind, xr_iH, ↓xr_bind, W_iH, WI_t, WI_f, gI_43, pI_43, iO_43, gR_43_0, aI_44, sI_44, gR_43_1, aI_45, sI_45, gR_43_2, aI_46, sI_46, pZ_43]
          unfold f_X5_begin
          simp (disch := first | assumption | omega) only [↓b_hid, bH_some, ↓hid_W, W_some, I3_a, I3_s, I3_m, I3_n, I3_l, I3_lt, I3_le, I3_e, I3_dv, I3_rm, I3_mx, I3_mn, I3_ab, cI, bI_0, bI_1, rZ_b, up_same, up_row, up_col, xr_some, LQ_r, LQ_l, Int.sub_self, Int.add_zero, Int.zero_add, Int.sub_zero, Int.neg_neg, not_true_eq_false, not_false_eq_true, Int.add_sub_cancel, ↓ite_iH, iH_t, iH_f, bH_iH, ↓bH_bind, xr_iH, ↓xr_bind, W_iH, WI_t, WI_f, gI_40, pI_40, iO_40, gR_40_2, aI_41, sI_41, gR_40_5, gI_43, pI_43, iO_43, gR_43_0, aI_44, sI_44, gR_43_1, aI_45, sI_45, gR_43_2, aI_46, sI_46, pZ_43, c1, c2, q1]
          by_cases hn30 : n < 30
          · rw [if_pos hn30] at hnext
            simp (disch := first | assumption | omega) only [↓b_hid, bH_some, ↓hid_W, W_some, I3_a, I3_s, I3_m, I3_n, I3_l, I3_lt, I3_le, I3_e, I3_dv, I3_rm, I3_mx, I3_mn, I3_ab, cI, bI_0, bI_1, rZ_b, up_same, up_row, up_col, xr_some, LQ_r, LQ_l, Int.sub_self, Int.add_zero, Int.zero_add, Int.sub_zero, Int.neg_neg, not_true_eq_false, not_false_eq_true, Int.add_sub_cancel, ↓ite_iH, iH_t, iH_f, bH_iH, ↓bH_bind, xr_iH, ↓xr_bind, W_iH, WI_t, WI_f, gI_43, pI_43, iO_43, gR_43_0, aI_44, sI_44, gR_43_1, aI_45, sI_45, gR_43_2, aI_46, sI_46, pZ_43, f_X5_begin_31, q1, iH_pos, iH_neg, WI_pos, WI_neg]
            refine done 1 _ (by rw [hnext]) ?_ (fun k hk => ?_)
            · rw [hnext]
              refine ⟨by rw [up_same], ?_, fun _ => ⟨?_, ?_, ?_⟩, ?_⟩
              · simp (disch := omega) only [up_row, up_col, up_same]; exact q2
              · rw [if_pos i6.1]; simp (disch := omega) only [up_row, up_col, up_same]
              · simp (disch := omega) only [up_row, up_col, up_same]
              · simp (disch := omega) only [up_row, up_col, up_same]
              · intro k k0 k1
                simp only at k1 ⊢
                unfold st1
                by_cases hk : k = n
                · subst hk
                  refine ⟨?_, ?_, ?_⟩ <;> simp (disch := omega) only [up_row, up_col, up_same, if_true]
                · obtain ⟨r1, r2, r3⟩ := q4 k k0 (by omega)
                  rw [if_neg hk, if_neg hk, if_neg hk]
                  refine ⟨?_, ?_, ?_⟩ <;> simp (disch := omega) only [up_row, up_col, up_same] <;> assumption
            · simp (disch := omega) only [up_row]
          · rw [if_neg hn30] at hnext
            simp (disch := first | assumption | omega) only [↓b_hid, bH_some, ↓hid_W, W_some, I3_a, I3_s, I3_m, I3_n, I3_l, I3_lt, I3_le, I3_e, I3_dv, I3_rm, I3_mx, I3_mn, I3_ab, cI, bI_0, bI_1, rZ_b, up_same, up_row, up_col, xr_some, LQ_r, LQ_l, Int.sub_self, Int.add_zero, Int.zero_add, Int.sub_zero, Int.neg_neg, not_true_eq_false, not_false_eq_true, Int.add_sub_cancel, ↓ite_iH, iH_t, iH_f, bH_iH, ↓bH_bind, xr_iH, ↓xr_bind, W_iH, WI_t, WI_f, gI_43, pI_43, iO_43, gR_43_0, aI_44, sI_44, gR_43_1, aI_45, sI_45, gR_43_2, aI_46, sI_46, pZ_43, f_X5_begin_31, iH_pos, iH_neg, WI_pos, WI_neg]
            refine done 1 _ (by rw [hnext]) ?_ (fun k hk => ?_)
            · rw [hnext]
              refine ⟨?_, ?_, fun _ => ⟨?_, ?_, ?_⟩, ?_⟩
              · simp (disch := omega) only [up_row, up_col, up_same]; exact q1
              · simp (disch := omega) only [up_row, up_col, up_same]; exact q2
              · rw [if_neg (by simp only; omega)]; simp (disch := omega) only [up_row, up_col, up_same]
              · simp (disch := omega) only [up_row, up_col, up_same]
              · simp (disch := omega) only [up_row, up_col, up_same]
              · intro k k0 k1
                obtain ⟨r1, r2, r3⟩ := q4 k k0 k1
                refine ⟨?_, ?_, ?_⟩ <;> simp (disch := omega) only [up_row, up_col, up_same] <;> assumption
            · simp (disch := omega) only [up_row]
      have go72 : ∀ c : Int, (c = 1 ∧ nb ≤ σ 1 ∨ c = 0 ∧ ¬nb ≤ σ 1) → WP (f_X5_find_72 43 b 35 40 (I3 h) (I3 i) (I3 c) (M p z3 l3)) (LQ (fun μ => ∃ z' l', μ = M p z' l' ∧ Pc z' (psσ σ s (lnσ σ s)) ∧ FrP z z' ∧ ∀ k, k ≠ 42 → l' k = l k) (fun m st => ∃ (i : Nat) (z' l' : Nat → Int → Int), st = (43, b, 35, 40, I3 (psσ σ s i).1.1, I3 i, M p z' l') ∧ i ≤ lnσ σ s ∧ m = lnσ σ s - i ∧ Pc z' (psσ σ s i) ∧ Fs z' (σ (83 + s)) (dσ σ s) (σ 0) ∧ FrP z z' ∧ ∀ k, k ≠ 42 → l' k = l k) (lnσ σ s - i)) := by
        intro c hc
        unfold f_X5_find_72
        simp (disch := first | assumption | omega) only [↓b_hid, bH_some, ↓hid_W, W_some, I3_a, I3_s, I3_m, I3_n, I3_l, I3_lt, I3_le, I3_e, I3_dv, I3_rm, I3_mx, I3_mn, I3_ab, cI, bI_0, bI_1, rZ_b, up_same, up_row, up_col, xr_some, LQ_r, LQ_l, Int.sub_self, Int.add_zero, Int.zero_add, Int.sub_zero, Int.neg_neg, not_true_eq_false, not_false_eq_true, Int.add_sub_cancel, ↓ite_iH, iH_t, iH_f, bH_iH, ↓bH_bind, xr_iH, ↓xr_bind, W_iH, WI_t, WI_f]
        refine WI_i (fun hh => ?_) (fun hh => ?_)
        · simp (disch := first | assumption | omega) only [↓b_hid, bH_some, ↓hid_W, W_some, I3_a, I3_s, I3_m, I3_n, I3_l, I3_lt, I3_le, I3_e, I3_dv, I3_rm, I3_mx, I3_mn, I3_ab, cI, bI_0, bI_1, rZ_b, up_same, up_row, up_col, xr_some, LQ_r, LQ_l, Int.sub_self, Int.add_zero, Int.zero_add, Int.sub_zero, Int.neg_neg, not_true_eq_false, not_false_eq_true, Int.add_sub_cancel, ↓ite_iH, iH_t, iH_f, bH_iH, ↓bH_bind, xr_iH, ↓xr_bind, W_iH, WI_t, WI_f]; exact new (fun hg => by have := hg.1; simp only at this; omega)
        simp (disch := first | assumption | omega) only [↓b_hid, bH_some, ↓hid_W, W_some, I3_a, I3_s, I3_m, I3_n, I3_l, I3_lt, I3_le, I3_e, I3_dv, I3_rm, I3_mx, I3_mn, I3_ab, cI, bI_0, bI_1, rZ_b, up_same, up_row, up_col, xr_some, LQ_r, LQ_l, Int.sub_self, Int.add_zero, Int.zero_add, Int.sub_zero, Int.neg_neg, not_true_eq_false, not_false_eq_true, Int.add_sub_cancel, ↓ite_iH, iH_t, iH_f, bH_iH, ↓bH_bind, xr_iH, ↓xr_bind, W_iH, WI_t, WI_f]
        refine WI_i (fun hh2 => ?_) (fun hh2 => ?_)
        · simp (disch := first | assumption | omega) only [↓b_hid, bH_some, ↓hid_W, W_some, I3_a, I3_s, I3_m, I3_n, I3_l, I3_lt, I3_le, I3_e, I3_dv, I3_rm, I3_mx, I3_mn, I3_ab, cI, bI_0, bI_1, rZ_b, up_same, up_row, up_col, xr_some, LQ_r, LQ_l, Int.sub_self, Int.add_zero, Int.zero_add, Int.sub_zero, Int.neg_neg, not_true_eq_false, not_false_eq_true, Int.add_sub_cancel, ↓ite_iH, iH_t, iH_f, bH_iH, ↓bH_bind, xr_iH, ↓xr_bind, W_iH, WI_t, WI_f]; exact new (fun hg => by have := hg.2.1; omega)
        have hh1 : h = 1 := by omega
        have hnear : nb ≤ σ 1 := by omega
        obtain ⟨q31, q32, q33⟩ := q3 hh1
        have hid := g_isDec (p := p) (l := l3) c1 hDr1
        have hic := g_isCod (p := p) (l := l3) c2 hDr2
        simp (disch := first | assumption | omega) only [↓b_hid, bH_some, ↓hid_W, W_some, I3_a, I3_s, I3_m, I3_n, I3_l, I3_lt, I3_le, I3_e, I3_dv, I3_rm, I3_mx, I3_mn, I3_ab, cI, bI_0, bI_1, rZ_b, up_same, up_row, up_col, xr_some, LQ_r, LQ_l, Int.sub_self, Int.add_zero, Int.zero_add, Int.sub_zero, Int.neg_neg, not_true_eq_false, not_false_eq_true, Int.add_sub_cancel, ↓ite_iH, iH_t, iH_f, bH_iH, ↓bH_bind, xr_iH, ↓xr_bind, W_iH, WI_t, WI_f, gI_B, pI_B, iO_B, gR_B0, gR_B1, aR_B, gI_43, pI_43, iO_43, gR_43_0, aI_44, sI_44, gR_43_1, aI_45, sI_45, gR_43_2, aI_46, sI_46, pZ_43]
        unfold f_X5_continuesLatest
        have bump : pgo D nb (σ 1) (repσ σ) ((h, lk, lp, lc, n, st), P, C, K) → WP (bH (f_X5_countLatest 43 (M p z3 l3)) (hd (fun z98 => f_X5_find_137 43 b 35 40 (I3 h) (I3 i) z98))) (LQ (fun μ => ∃ z' l', μ = M p z' l' ∧ Pc z' (psσ σ s (lnσ σ s)) ∧ FrP z z' ∧ ∀ k, k ≠ 42 → l' k = l k) (fun m st => ∃ (i : Nat) (z' l' : Nat → Int → Int), st = (43, b, 35, 40, I3 (psσ σ s i).1.1, I3 i, M p z' l') ∧ i ≤ lnσ σ s ∧ m = lnσ σ s - i ∧ Pc z' (psσ σ s i) ∧ Fs z' (σ (83 + s)) (dσ σ s) (σ 0) ∧ FrP z z' ∧ ∀ k, k ≠ 42 → l' k = l k) (lnσ σ s - i)) := by
          intro hg
          unfold pst at hnext
          rw [if_pos hg] at hnext
          simp only at hnext
          unfold f_X5_countLatest
          by_cases hlk : 0 ≤ lk
          · rw [if_pos hlk] at hnext q31
            have hlk2 := i3 hh1 hlk
            simp (disch := first | assumption | omega) only [↓b_hid, bH_some, ↓hid_W, W_some, I3_a, I3_s, I3_m, I3_n, I3_l, I3_lt, I3_le, I3_e, I3_dv, I3_rm, I3_mx, I3_mn, I3_ab, cI, bI_0, bI_1, rZ_b, up_same, up_row, up_col, xr_some, LQ_r, LQ_l, Int.sub_self, Int.add_zero, Int.zero_add, Int.sub_zero, Int.neg_neg, not_true_eq_false, not_false_eq_true, Int.add_sub_cancel, ↓ite_iH, iH_t, iH_f, bH_iH, ↓bH_bind, xr_iH, ↓xr_bind, W_iH, WI_t, WI_f, gI_43, pI_43, iO_43, gR_43_0, aI_44, sI_44, gR_43_1, aI_45, sI_45, gR_43_2, aI_46, sI_46, pZ_43, q31, q1, iH_pos, iH_neg, WI_pos, WI_neg]
            refine done h _ (by rw [hnext]) ?_ (fun k hk => ?_)
            · rw [hnext]
              refine ⟨?_, ?_, fun _ => ⟨?_, ?_, ?_⟩, ?_⟩
              · rw [up_row (by decide)]; exact q1
              · rw [up_row (by decide)]; exact q2
              · rw [up_row (by decide), q31]; simp only; rw [if_pos hlk]
              · rw [up_row (by decide)]; exact q32
              · rw [up_row (by decide)]; exact q33
              · intro k k0 k1
                obtain ⟨r1, r2, r3⟩ := q4 k k0 k1
                unfold st1
                simp only
                rw [up_row (by decide), up_row (by decide)]
                refine ⟨r1, r2, ?_⟩
                by_cases hk : k = lk
                · have hk' : k = n - 1 := by omega
                  rw [if_pos hk, ← hk, ← hk', up_same, r3]
                · rw [if_neg hk, up_col (by omega)]; exact r3
            · rw [up_row (by omega)]
          · rw [if_neg hlk] at hnext q31
            simp (disch := first | assumption | omega) only [↓b_hid, bH_some, ↓hid_W, W_some, I3_a, I3_s, I3_m, I3_n, I3_l, I3_lt, I3_le, I3_e, I3_dv, I3_rm, I3_mx, I3_mn, I3_ab, cI, bI_0, bI_1, rZ_b, up_same, up_row, up_col, xr_some, LQ_r, LQ_l, Int.sub_self, Int.add_zero, Int.zero_add, Int.sub_zero, Int.neg_neg, not_true_eq_false, not_false_eq_true, Int.add_sub_cancel, ↓ite_iH, iH_t, iH_f, bH_iH, ↓bH_bind, xr_iH, ↓xr_bind, W_iH, WI_t, WI_f, gI_43, pI_43, iO_43, gR_43_0, aI_44, sI_44, gR_43_1, aI_45, sI_45, gR_43_2, aI_46, sI_46, pZ_43, q31, iH_pos, iH_neg, WI_pos, WI_neg]
            refine done h z3 (by rw [hnext]) ?_ (fun _ _ => rfl)
            rw [hnext]
            exact ⟨q1, q2, fun _ => ⟨by rw [q31]; simp only; rw [if_neg hlk], q32, q33⟩, q4⟩
        simp (disch := first | assumption | omega) only [↓b_hid, bH_some, ↓hid_W, W_some, I3_a, I3_s, I3_m, I3_n, I3_l, I3_lt, I3_le, I3_e, I3_dv, I3_rm, I3_mx, I3_mn, I3_ab, cI, bI_0, bI_1, rZ_b, up_same, up_row, up_col, xr_some, LQ_r, LQ_l, Int.sub_self, Int.add_zero, Int.zero_add, Int.sub_zero, Int.neg_neg, not_true_eq_false, not_false_eq_true, Int.add_sub_cancel, ↓ite_iH, iH_t, iH_f, bH_iH, ↓bH_bind, xr_iH, ↓xr_bind, W_iH, WI_t, WI_f, gI_40, pI_40, iO_40, gR_40_2, aI_41, sI_41, gR_40_5, hid]
        refine WI_i (fun h1 => ?_) (fun h1 => ?_)
        · simp (disch := first | assumption | omega) only [↓b_hid, bH_some, ↓hid_W, W_some, I3_a, I3_s, I3_m, I3_n, I3_l, I3_lt, I3_le, I3_e, I3_dv, I3_rm, I3_mx, I3_mn, I3_ab, cI, bI_0, bI_1, rZ_b, up_same, up_row, up_col, xr_some, LQ_r, LQ_l, Int.sub_self, Int.add_zero, Int.zero_add, Int.sub_zero, Int.neg_neg, not_true_eq_false, not_false_eq_true, Int.add_sub_cancel, ↓ite_iH, iH_t, iH_f, bH_iH, ↓bH_bind, xr_iH, ↓xr_bind, W_iH, WI_t, WI_f, iH_pos, iH_neg, WI_pos, WI_neg]; exact new (fun hg => h1 hg.2.2.1)
        simp (disch := first | assumption | omega) only [↓b_hid, bH_some, ↓hid_W, W_some, I3_a, I3_s, I3_m, I3_n, I3_l, I3_lt, I3_le, I3_e, I3_dv, I3_rm, I3_mx, I3_mn, I3_ab, cI, bI_0, bI_1, rZ_b, up_same, up_row, up_col, xr_some, LQ_r, LQ_l, Int.sub_self, Int.add_zero, Int.zero_add, Int.sub_zero, Int.neg_neg, not_true_eq_false, not_false_eq_true, Int.add_sub_cancel, ↓ite_iH, iH_t, iH_f, bH_iH, ↓bH_bind, xr_iH, ↓xr_bind, W_iH, WI_t, WI_f, gI_40, pI_40, iO_40, gR_40_2, aI_41, sI_41, gR_40_5, gI_43, pI_43, iO_43, gR_43_0, aI_44, sI_44, gR_43_1, aI_45, sI_45, gR_43_2, aI_46, sI_46, pZ_43, c1, q32]
        refine WI_i (fun h2 => ?_) (fun h2 => ?_)
        · simp (disch := first | assumption | omega) only [↓b_hid, bH_some, ↓hid_W, W_some, I3_a, I3_s, I3_m, I3_n, I3_l, I3_lt, I3_le, I3_e, I3_dv, I3_rm, I3_mx, I3_mn, I3_ab, cI, bI_0, bI_1, rZ_b, up_same, up_row, up_col, xr_some, LQ_r, LQ_l, Int.sub_self, Int.add_zero, Int.zero_add, Int.sub_zero, Int.neg_neg, not_true_eq_false, not_false_eq_true, Int.add_sub_cancel, ↓ite_iH, iH_t, iH_f, bH_iH, ↓bH_bind, xr_iH, ↓xr_bind, W_iH, WI_t, WI_f, gI_40, pI_40, iO_40, gR_40_2, aI_41, sI_41, gR_40_5, hic]
          refine WI_i (fun h3 => ?_) (fun h3 => ?_)
          · have hb' := bump ⟨hh1, hnear, by omega, h2, Or.inl (Classical.byContradiction h3)⟩
            simp (disch := first | assumption | omega) only [↓b_hid, bH_some, ↓hid_W, W_some, I3_a, I3_s, I3_m, I3_n, I3_l, I3_lt, I3_le, I3_e, I3_dv, I3_rm, I3_mx, I3_mn, I3_ab, cI, bI_0, bI_1, rZ_b, up_same, up_row, up_col, xr_some, LQ_r, LQ_l, Int.sub_self, Int.add_zero, Int.zero_add, Int.sub_zero, Int.neg_neg, not_true_eq_false, not_false_eq_true, Int.add_sub_cancel, ↓ite_iH, iH_t, iH_f, bH_iH, ↓bH_bind, xr_iH, ↓xr_bind, W_iH, WI_t, WI_f, gI_43, pI_43, iO_43, gR_43_0, aI_44, sI_44, gR_43_1, aI_45, sI_45, gR_43_2, aI_46, sI_46, pZ_43, iH_pos, iH_neg, WI_pos, WI_neg]; exact hb'
          · obtain ⟨d1, d2, d3⟩ := hDc (Classical.byContradiction h3)
            simp (disch := first | assumption | omega) only [↓b_hid, bH_some, ↓hid_W, W_some, I3_a, I3_s, I3_m, I3_n, I3_l, I3_lt, I3_le, I3_e, I3_dv, I3_rm, I3_mx, I3_mn, I3_ab, cI, bI_0, bI_1, rZ_b, up_same, up_row, up_col, xr_some, LQ_r, LQ_l, Int.sub_self, Int.add_zero, Int.zero_add, Int.sub_zero, Int.neg_neg, not_true_eq_false, not_false_eq_true, Int.add_sub_cancel, ↓ite_iH, iH_t, iH_f, bH_iH, ↓bH_bind, xr_iH, ↓xr_bind, W_iH, WI_t, WI_f, gI_40, pI_40, iO_40, gR_40_2, aI_41, sI_41, gR_40_5, gI_43, pI_43, iO_43, gR_43_0, aI_44, sI_44, gR_43_1, aI_45, sI_45, gR_43_2, aI_46, sI_46, pZ_43, c2, q33]
            refine WI_i (fun h4 => ?_) (fun h4 => ?_)
            · have hlpr : 0 ≤ lp ∧ lp < 6 := by have := V_n hV; omega
              have hPV := hV.2.2.2.2.2.1 lp.toNat (by have := V_n hV; omega)
              have htb := isTb_B hb
              have hpq : isP (b + 1 + 4 + lp.toNat) := isP_T htb (by omega)
              have hrow : z3 (b + 1 + 4 + lp.toNat) 8 = repσ σ D.1 := by
                have := (St_TbP hV hS3).2 lp.toNat (by have := V_n hV; omega) 8 (by decide) (by decide)
                rw [this]; unfold Fσ repσ; rw [h2, show ((lp.toNat : Nat) : Int) = lp by omega]
              have hrr : 0 ≤ repσ σ D.1 ∧ repσ σ D.1 ≤ 2 := by
                have h8 := hPV.2.2.2.2.2.2.2
                unfold repσ; rw [h2]
                rw [show ((lp.toNat : Nat) : Int) = lp by omega] at h8; exact h8
              simp (disch := first | assumption | omega) only [↓b_hid, bH_some, ↓hid_W, W_some, I3_a, I3_s, I3_m, I3_n, I3_l, I3_lt, I3_le, I3_e, I3_dv, I3_rm, I3_mx, I3_mn, I3_ab, cI, bI_0, bI_1, rZ_b, up_same, up_row, up_col, xr_some, LQ_r, LQ_l, Int.sub_self, Int.add_zero, Int.zero_add, Int.sub_zero, Int.neg_neg, not_true_eq_false, not_false_eq_true, Int.add_sub_cancel, ↓ite_iH, iH_t, iH_f, bH_iH, ↓bH_bind, xr_iH, ↓xr_bind, W_iH, WI_t, WI_f, gI_43, pI_43, iO_43, gR_43_0, aI_44, sI_44, gR_43_1, aI_45, sI_45, gR_43_2, aI_46, sI_46, pZ_43, q32, iO_Tb, g_pAt, gI_P, hrow]
              refine WI_i (fun h5 => ?_) (fun h5 => ?_)
              · simp (disch := first | assumption | omega) only [↓b_hid, bH_some, ↓hid_W, W_some, I3_a, I3_s, I3_m, I3_n, I3_l, I3_lt, I3_le, I3_e, I3_dv, I3_rm, I3_mx, I3_mn, I3_ab, cI, bI_0, bI_1, rZ_b, up_same, up_row, up_col, xr_some, LQ_r, LQ_l, Int.sub_self, Int.add_zero, Int.zero_add, Int.sub_zero, Int.neg_neg, not_true_eq_false, not_false_eq_true, Int.add_sub_cancel, ↓ite_iH, iH_t, iH_f, bH_iH, ↓bH_bind, xr_iH, ↓xr_bind, W_iH, WI_t, WI_f, iH_pos, iH_neg, WI_pos, WI_neg]; exact new (fun hg => by
                  rcases hg.2.2.2.2 with h | h
                  · exact absurd h (by omega)
                  · exact h.2 h5)
              · have hb' := bump ⟨hh1, hnear, by omega, h2, Or.inr ⟨h4, h5⟩⟩
                simp (disch := first | assumption | omega) only [↓b_hid, bH_some, ↓hid_W, W_some, I3_a, I3_s, I3_m, I3_n, I3_l, I3_lt, I3_le, I3_e, I3_dv, I3_rm, I3_mx, I3_mn, I3_ab, cI, bI_0, bI_1, rZ_b, up_same, up_row, up_col, xr_some, LQ_r, LQ_l, Int.sub_self, Int.add_zero, Int.zero_add, Int.sub_zero, Int.neg_neg, not_true_eq_false, not_false_eq_true, Int.add_sub_cancel, ↓ite_iH, iH_t, iH_f, bH_iH, ↓bH_bind, xr_iH, ↓xr_bind, W_iH, WI_t, WI_f, gI_43, pI_43, iO_43, gR_43_0, aI_44, sI_44, gR_43_1, aI_45, sI_45, gR_43_2, aI_46, sI_46, pZ_43, iH_pos, iH_neg, WI_pos, WI_neg]; exact hb'
            · simp (disch := first | assumption | omega) only [↓b_hid, bH_some, ↓hid_W, W_some, I3_a, I3_s, I3_m, I3_n, I3_l, I3_lt, I3_le, I3_e, I3_dv, I3_rm, I3_mx, I3_mn, I3_ab, cI, bI_0, bI_1, rZ_b, up_same, up_row, up_col, xr_some, LQ_r, LQ_l, Int.sub_self, Int.add_zero, Int.zero_add, Int.sub_zero, Int.neg_neg, not_true_eq_false, not_false_eq_true, Int.add_sub_cancel, ↓ite_iH, iH_t, iH_f, bH_iH, ↓bH_bind, xr_iH, ↓xr_bind, W_iH, WI_t, WI_f, iH_pos, iH_neg, WI_pos, WI_neg]; exact new (fun hg => by
                rcases hg.2.2.2.2 with h | h
                · exact absurd h (by omega)
                · exact h4 h.1)
        · simp (disch := first | assumption | omega) only [↓b_hid, bH_some, ↓hid_W, W_some, I3_a, I3_s, I3_m, I3_n, I3_l, I3_lt, I3_le, I3_e, I3_dv, I3_rm, I3_mx, I3_mn, I3_ab, cI, bI_0, bI_1, rZ_b, up_same, up_row, up_col, xr_some, LQ_r, LQ_l, Int.sub_self, Int.add_zero, Int.zero_add, Int.sub_zero, Int.neg_neg, not_true_eq_false, not_false_eq_true, Int.add_sub_cancel, ↓ite_iH, iH_t, iH_f, bH_iH, ↓bH_bind, xr_iH, ↓xr_bind, W_iH, WI_t, WI_f, iH_pos, iH_neg, WI_pos, WI_neg]; exact new (fun hg => h2 hg.2.2.2.1)
      simp (disch := first | assumption | omega) only [↓b_hid, bH_some, ↓hid_W, W_some, I3_a, I3_s, I3_m, I3_n, I3_l, I3_lt, I3_le, I3_e, I3_dv, I3_rm, I3_mx, I3_mn, I3_ab, cI, bI_0, bI_1, rZ_b, up_same, up_row, up_col, xr_some, LQ_r, LQ_l, Int.sub_self, Int.add_zero, Int.zero_add, Int.sub_zero, Int.neg_neg, not_true_eq_false, not_false_eq_true, Int.add_sub_cancel, ↓ite_iH, iH_t, iH_f, bH_iH, ↓bH_bind, xr_iH, ↓xr_bind, W_iH, WI_t, WI_f, gI_35, pI_35, iO_35, gR_35_0, aI_36, sI_36, gR_35_1, aI_37, sI_37, gR_35_3, gI_B, pI_B, iO_B, gR_B0, gR_B1, aR_B, hsb, g3']
      refine WI_i (fun hh => ?_) (fun hh => ?_)
      · simp (disch := first | assumption | omega) only [↓b_hid, bH_some, ↓hid_W, W_some, I3_a, I3_s, I3_m, I3_n, I3_l, I3_lt, I3_le, I3_e, I3_dv, I3_rm, I3_mx, I3_mn, I3_ab, cI, bI_0, bI_1, rZ_b, up_same, up_row, up_col, xr_some, LQ_r, LQ_l, Int.sub_self, Int.add_zero, Int.zero_add, Int.sub_zero, Int.neg_neg, not_true_eq_false, not_false_eq_true, Int.add_sub_cancel, ↓ite_iH, iH_t, iH_f, bH_iH, ↓bH_bind, xr_iH, ↓xr_bind, W_iH, WI_t, WI_f]; exact go72 0 (Or.inr ⟨rfl, by omega⟩)
      · simp (disch := first | assumption | omega) only [↓b_hid, bH_some, ↓hid_W, W_some, I3_a, I3_s, I3_m, I3_n, I3_l, I3_lt, I3_le, I3_e, I3_dv, I3_rm, I3_mx, I3_mn, I3_ab, cI, bI_0, bI_1, rZ_b, up_same, up_row, up_col, xr_some, LQ_r, LQ_l, Int.sub_self, Int.add_zero, Int.zero_add, Int.sub_zero, Int.neg_neg, not_true_eq_false, not_false_eq_true, Int.add_sub_cancel, ↓ite_iH, iH_t, iH_f, bH_iH, ↓bH_bind, xr_iH, ↓xr_bind, W_iH, WI_t, WI_f]; exact go72 1 (Or.inl ⟨rfl, by omega⟩)
    · have : i = lnσ σ s := by omega
      subst this
      simp (disch := first | assumption | omega) only [↓b_hid, bH_some, ↓hid_W, W_some, I3_a, I3_s, I3_m, I3_n, I3_l, I3_lt, I3_le, I3_e, I3_dv, I3_rm, I3_mx, I3_mn, I3_ab, cI, bI_0, bI_1, rZ_b, up_same, up_row, up_col, xr_some, LQ_r, LQ_l, Int.sub_self, Int.add_zero, Int.zero_add, Int.sub_zero, Int.neg_neg, not_true_eq_false, not_false_eq_true, Int.add_sub_cancel, ↓ite_iH, iH_t, iH_f, bH_iH, ↓bH_bind, xr_iH, ↓xr_bind, W_iH, WI_t, WI_f, gI_35, pI_35, iO_35, gR_35_0, aI_36, sI_36, gR_35_1, aI_37, sI_37, gR_35_3, g2, f_X5_find_143, iH_pos, iH_neg, WI_pos, WI_neg]
      exact ⟨z', l', rfl, hP, hF, hl⟩
  · rw [← hz2, up_col (by decide), up_same]; rfl
  · rw [← hz2, up_same]; rfl
  · intro h; exact absurd h (by simp [psσ, psf])
  · intro k k0 k1; simp [psσ, psf] at k1; omega
end
