/-! A decoded frame, whole: its deviation is at most ten times the tolerance. -/
theorem xc_fit {f e : Int → Int} {m tol : Int} (hP : PV f) (hx : xcode f e m tol ≠ -9) : Ft e (frm f (xcode f e m tol)).2 tol m := by
  obtain ⟨p0, p1, p2, p3, p4, h6, p7⟩ := id hP
  unfold frm
  rw [fcut_v]
  by_cases h2 : f 0 = 2
  · have hxc : xcode f e m tol = phcode f e m tol := by unfold xcode; rw [if_pos h2]
    rw [hxc] at hx ⊢
    rw [if_neg (by omega)]
    unfold phcode at hx ⊢
    rcases cif_q (3 ≤ m ∧ m ≤ 2 * f 6 + 1 ∧ mt (e 0) (f 1) tol) (cif (ph0 f e m tol) (phs f e m tol (f 6 - 1).toNat 2) (cif (ph1 f e m tol) (pw (plc f 0) + phs f e m tol (f 6 - 1).toNat 3) (-9))) (-9) with ⟨hg, hq⟩ | ⟨hg, hq⟩
    case inr => exact absurd hq hx
    rw [hq] at hx ⊢
    have v0 : ∀ (c i : Int), (frK f c 0).2 i = if i = 1 then f 2 else if i = 0 then f 1 else 0 := fun c i => rfl
    have n0 : ∀ c : Int, (frK f c 0).1 = 2 := fun c => rfl
    have pl0 := plc_r (f := f) (k := 0) (by omega) (by omega)
    by_cases h0 : ph0 f e m tol
    · rw [cif_t h0] at hx ⊢
      obtain ⟨a1, a2⟩ := phs_r (f := f) e m tol 2 h6
      generalize hc : phs f e m tol (f 6 - 1).toNat 2 = c at *
      have hb0 : fbit f c 0 = 0 := a2
      have hv := fsv_0 (c := c) (k := 0) (x := frK f c 0) h2 hb0 (by rw [n0]; decide)
      have e1 : (frK f c 1).1 = 2 + 1 := by
        rw [frK, show ((0 : Nat) : Int) = 0 from rfl, fst_0 h2 hb0 (by show (0 : Int) < 2; decide)]; rfl
      have w : ∀ i, (frK f c 1).2 i = if i = 2 then f 3 else if i = 1 then f 2 + f 3 else if i = 1 then f 2 else if i = 0 then f 1 else 0 := fun i => by
        rw [frK, show ((0 : Nat) : Int) = 0 from rfl, hv i, n0, if_pos (by decide), v0, v0, if_pos (show (2 : Int) - 1 = 1 by decide)]; rfl
      have := ph_fit (c := c) h2 h6 (f 6 - 1).toNat 1 2 (by omega) (by decide) e1 h0.2 (fun j hj hj6 => by rw [hc]) (fun i i0 i1 => by
        have hi : i = 0 ∨ i = 1 := by omega
        rw [w]
        rcases hi with rfl | rfl
        · exact hg.2.2
        · exact h0.1) (by rw [w, if_pos rfl])
      rw [show 1 + (f 6 - 1).toNat = (f 6).toNat by omega] at this
      exact this
    · rw [cif_f h0] at hx ⊢
      by_cases h1 : ph1 f e m tol
      · rw [cif_t h1] at hx ⊢
        obtain ⟨a1, a2⟩ := phs_r (f := f) e m tol 3 h6
        generalize hc : phs f e m tol (f 6 - 1).toNat 3 = c at *
        have hb0 : fbit f (pw (plc f 0) + c) 0 = 1 := by unfold fbit; rw [Int.add_comm]; exact bt_self a2
        have hv := fsv_1 (c := pw (plc f 0) + c) (k := 0) (x := frK f (pw (plc f 0) + c) 0) h2 hb0 (by rw [n0]; decide)
        have e1 : (frK f (pw (plc f 0) + c) 1).1 = 3 + 1 := by
          rw [frK, show ((0 : Nat) : Int) = 0 from rfl, fst_1 h2 hb0 (by show (0 : Int) < 2; decide)]; rfl
        have w : ∀ i, (frK f (pw (plc f 0) + c) 1).2 i = if i = 3 then f 3 else if i = 2 then f 3 else if i = 1 then f 2 else if i = 0 then f 1 else 0 := fun i => by
          rw [frK, show ((0 : Nat) : Int) = 0 from rfl, hv i, n0, if_neg (by decide), v0]; rfl
        have := ph_fit (c := pw (plc f 0) + c) h2 h6 (f 6 - 1).toNat 1 3 (by omega) (by decide) e1 h1.2.2 (fun j hj hj6 => by
          have pj := plc_r (f := f) (k := j) (by omega) hj6
          rw [hc, Int.add_comm]
          exact bt_add a1.1 (by omega) (by omega) (by omega) (by omega) (by omega) a2 (plc_inj (by omega))) (fun i i0 i1 => by
          have hi : i = 0 ∨ i = 1 ∨ i = 2 := by omega
          rw [w]
          rcases hi with rfl | rfl | rfl
          · exact hg.2.2
          · exact h1.1
          · exact h1.2.1.2.2) (by rw [w, if_pos rfl])
        rw [show 1 + (f 6 - 1).toNat = (f 6).toNat by omega] at this
        exact this
      · rw [cif_f h1] at hx; exact absurd rfl hx
  · have hxc : xcode f e m tol = pcode f e m tol := by unfold xcode; rw [if_neg h2]
    rw [hxc] at hx ⊢
    unfold pcode at hx ⊢
    rcases cif_q (pok f e m tol) (csum f (pbv f e tol) (f 6).toNat) (-9) with ⟨hpk, hq⟩ | ⟨hg, hq⟩
    case inr => exact absurd hq hx
    rw [hq]
    have hb : ∀ k : Nat, (k : Int) < f 6 → fbit f (csum f (pbv f e tol) (f 6).toNat) k = pbv f e tol k := fun k hk => csm_bt (fun k => cif01 _) h6 (f 6).toNat (by omega) k (by omega)
    obtain ⟨q1, q2⟩ := pl_fit (m := m) h2 hpk hb (f 6).toNat (by omega)
    obtain ⟨a, b, c', d, g⟩ := hpk
    generalize frK f (csum f (pbv f e tol) (f 6).toNat) (f 6).toNat = x at *
    by_cases h0 : f 0 = 0
    · rw [if_pos h0]
      rw [if_neg (by omega)] at a q1
      intro i i0 i1
      rw [fput_v]
      by_cases hi : i = x.1
      · rw [if_pos hi]
        refine d i (by omega) i1 ?_
        rw [if_neg (by omega)]; omega
      · rw [if_neg hi]; exact q2 i i0 (by omega)
    · rw [if_neg h0]
      rw [if_pos (by omega)] at a q1
      rw [if_neg (by omega)] at q1
      exact Ft_le q2 (by omega)
theorem frs_fit {f e : Int → Int} {m tol : Int} (hx : xshort f e m tol) : Ft e (frs f).2 tol m := by
  obtain ⟨a, b, c, d, g⟩ := hx
  intro i i0 i1
  have v : (frs f).2 i = if i = 2 then f 3 else if i = 1 then f 2 / 2 else if i = 0 then f 1 else 0 := rfl
  have hi : i = 0 ∨ i = 1 ∨ i = 2 := by omega
  rw [v]
  rcases hi with rfl | rfl | rfl
  · exact c
  · exact d
  · exact g
theorem dec_fit {F : Nat → Int → Int} {n : Nat} {e : Int → Int} {m t : Int} (hP : ∀ j, j < n → PV (F j)) (h : (dec F n e m t).1 ≠ -9) : ((dec F n e m t).2 ≠ -9 → Ft e (frm (F (dec F n e m t).1.toNat) (dec F n e m t).2).2 t m) ∧ ((dec F n e m t).2 = -9 → Ft e (frs (F (dec F n e m t).1.toNat)).2 t m) := by
  unfold dec at h ⊢
  by_cases h1 : (dec1 F e m t n 0).1 = -9
  · rw [if_pos h1] at h ⊢
    obtain ⟨j, a, b, c⟩ := dec2_v n 0 h
    simp only at h ⊢
    refine ⟨fun h => absurd rfl h, fun _ => ?_⟩
    rw [b, Int.toNat_natCast]
    exact frs_fit c
  · rw [if_neg h1]
    obtain ⟨j, a, b, c⟩ := dec1_v n 0 h1
    rw [b]
    simp only
    refine ⟨fun _ => ?_, fun h => absurd h c⟩
    rw [Int.toNat_natCast]
    exact xc_fit (hP j (by omega)) c
theorem dvf_fit {e x : Int → Int} {m tol : Int} (ht : 0 ≤ tol) (hx : ∀ k, 0 ≤ k → k < m → 1 ≤ x k ∧ x k ≤ 60000) (hF : Ft e x tol m) : ∀ k : Nat, (k : Int) ≤ m → dvf e x k ≤ 10 * tol
  | 0, _ => by rw [dvf]; omega
  | k + 1, h => by
    have ih := dvf_fit ht hx hF k (by omega)
    have hm := hF k (by omega) (by omega)
    have hb := hx k (by omega) (by omega)
    rw [dvf]
    split
    · unfold dq
      unfold mt at hm
      generalize e k = a at *
      generalize x k = b at *
      have e1 : (if a ≤ b then b - a else a - b) = (if b < a then a - b else b - a) := by split <;> split <;> omega
      rw [e1]
      generalize (if b < a then a - b else b - a) = v at *
      refine Int.ediv_le_of_le_mul (by omega) ?_
      have e2 : 10 * tol * b = 10 * (b * tol) := by rw [Int.mul_assoc, Int.mul_comm tol b]
      rw [e2]; omega
    · exact ih
/-- the deviation of a decoded frame -/
theorem dev_fit {σ : Int → Int} {s i : Nat} (hV : V σ) (hs : s < 3) (hi : i < (Lσ σ s).length) (hd : (frD σ s i).1 ≠ -9) : 0 ≤ A_dev σ s i ∧ A_dev σ s i ≤ 10 * σ 2 ∧ A_dev σ s i ≤ 60000000 := by
  have hPV : ∀ j, j < nσ σ → PV (Fσ σ j) := fun j hj => hV.2.2.2.2.2.1 j (by have := V_n hV; omega)
  have ht := σ_tr hV hs
  obtain ⟨q1, q2, q3, q4, q5, q6⟩ := dvX_r hV hs hi hd
  have hfit := dec_fit (F := Fσ σ) (n := nσ σ) (e := fun k => dσ σ s ((gl (Lσ σ s) i).1 + k)) (m := (gl (Lσ σ s) i).2) (t := σ 2) hPV hd
  have hfit : ((frD σ s i).2 ≠ -9 → Ft (dvE σ s i) (frm (Fσ σ (frD σ s i).1.toNat) (frD σ s i).2).2 (σ 2) (gl (Lσ σ s) i).2) ∧ ((frD σ s i).2 = -9 → Ft (dvE σ s i) (frs (Fσ σ (frD σ s i).1.toNat)).2 (σ 2) (gl (Lσ σ s) i).2) := hfit
  have hFt : Ft (dvE σ s i) (dvX σ s i).2 (σ 2) (dvX σ s i).1 := by
    rw [q5]
    unfold dvX
    by_cases h9 : (frD σ s i).2 = -9
    · rw [if_pos h9]; exact hfit.2 h9
    · rw [if_neg h9]; exact hfit.1 h9
  have hA : A_dev σ s i = dvf (dvE σ s i) (dvX σ s i).2 (dvX σ s i).1.toNat := by
    unfold A_dev
    rw [if_pos (by omega), if_pos (by omega), Int.toNat_natCast, Int.toNat_natCast, if_pos (by omega), if_neg hd]
  rw [hA]
  unfold fsG at q6
  have he : ∀ k, 0 ≤ k → k < (dvX σ s i).1 → 1 ≤ dvE σ s i k ∧ dvE σ s i k ≤ 60000 := fun k k0 k1 => ht.2 _ (by omega) (by omega)
  have hr := dvf_r (m := (dvX σ s i).1) he q3.2 (dvX σ s i).1.toNat (by omega)
  exact ⟨hr.1, dvf_fit hV.2.2.1.1 q3.2 hFt _ (by omega), hr.2⟩
theorem dev_none {σ : Int → Int} {s i : Nat} (hs : s < 3) (hi : i < (Lσ σ s).length) (hd : (frD σ s i).1 = -9) : A_dev σ s i = -9 := by
  unfold A_dev
  rw [if_pos (by omega), if_pos (by omega), Int.toNat_natCast, Int.toNat_natCast, if_pos (by omega), if_pos hd]
