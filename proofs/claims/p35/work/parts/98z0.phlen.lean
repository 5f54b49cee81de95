/-! How long the frame of a decoded code is. -/
theorem bt_self {c k : Int} (h : bt c k = 0) : bt (c + pw k) k = 1 := by
  have hp := pw_pos k
  unfold bt at h ⊢
  rw [Int.add_ediv_of_dvd_right ⟨1, by omega⟩, Int.ediv_self (by omega)]
  omega
theorem phs_b {f : Int → Int} (e : Int → Int) (m tol : Int) (h6 : 1 ≤ f 6 ∧ f 6 ≤ 16) (r k : Nat) (q : Int) (hk : (k : Int) + (r + 1) = f 6) : bt (phs f e m tol (r + 1) q) (plc f k) = phb f e m tol r q ∧ ∀ j : Nat, k < j → (j : Int) < f 6 → bt (phs f e m tol (r + 1) q) (plc f j) = bt (phs f e m tol r (phn f e m tol r q)) (plc f j) := by
  obtain ⟨b', h1, h2, h3⟩ := phs_csum f e m tol r (k + 1) (phn f e m tol r q) (fun _ => 0) (fun _ => Or.inl rfl) (by omega)
  have h0 : ∀ n : Nat, csum f (fun _ => 0) n = 0 := by
    intro n
    induction n with
    | zero => rfl
    | succ n ih => rw [csum, ih]; simp
  rw [h0, Int.zero_add] at h3
  have hr := csum_r f b' h1 h6.2 (f 6).toNat (by omega)
  rw [← h3] at hr
  have hz : bt (phs f e m tol r (phn f e m tol r q)) (plc f k) = 0 := by
    rw [h3]; exact csum_bt2 f b' h1 h6.2 (f 6).toNat k (Or.inr (by rw [h2 k (by omega)])) (by omega) (by omega)
  have pk := plc_r (f := f) (k := k) (by omega) (by omega)
  have hv : phb f e m tol r q = 0 ∨ phb f e m tol r q = 1 := cif01 _
  rw [phs, show f 6 - ((r : Int) + 1) = k by omega]
  rcases hv with hv | hv
  · rw [hv, Int.zero_mul, Int.zero_add]
    exact ⟨hz, fun _ _ _ => rfl⟩
  · rw [hv, Int.one_mul, Int.add_comm]
    refine ⟨bt_self hz, fun j hj hj6 => ?_⟩
    have pj := plc_r (f := f) (k := j) (by omega) hj6
    exact bt_add hr.1 (by omega) (by omega) (by omega) (by omega) (by omega) hz (plc_inj (by omega))
theorem flay_p {m v : Int} {x : Dn} (h : ¬(0 < x.1 ∧ x.1 % 2 = m)) : (flay m v x).1 = x.1 + 1 := by unfold flay; rw [if_neg h]; rfl
theorem flay_j {m v : Int} {x : Dn} (h : 0 < x.1 ∧ x.1 % 2 = m) : (flay m v x).1 = x.1 := by unfold flay; rw [if_pos h]
/-- the length behind a bit -/
theorem fst_0 {f : Int → Int} {c k : Int} {x : Dn} (hf : f 0 = 2) (hb : fbit f c k = 0) (hx : 0 < x.1) : (fstep f c k x).1 = if x.1 % 2 = 0 then x.1 + 1 else x.1 + 2 := by
  unfold fstep
  rw [if_pos hf, hb]
  by_cases h : x.1 % 2 = 0
  · have e := flay_j (m := 0) (v := f 3) (x := x) ⟨hx, h⟩
    rw [if_pos h, flay_p (by rw [e]; omega), e]
  · have e := flay_p (m := 0) (v := f 3) (x := x) (by omega)
    rw [if_neg h, flay_p (by rw [e]; omega), e]; omega
theorem fst_1 {f : Int → Int} {c k : Int} {x : Dn} (hf : f 0 = 2) (hb : fbit f c k = 1) (hx : 0 < x.1) : (fstep f c k x).1 = if x.1 % 2 = 1 then x.1 + 1 else x.1 + 2 := by
  unfold fstep
  rw [if_pos hf, hb]
  by_cases h : x.1 % 2 = 1
  · have e := flay_j (m := 1) (v := f 3) (x := x) ⟨hx, h⟩
    rw [if_pos h, flay_p (by rw [e]; omega), e]
  · have e := flay_p (m := 1) (v := f 3) (x := x) (by omega)
    rw [if_neg h, flay_p (by rw [e]; omega), e]; omega
theorem ph_len {f e : Int → Int} {m tol c : Int} (hf : f 0 = 2) (h6 : 1 ≤ f 6 ∧ f 6 ≤ 16) : ∀ (r k : Nat) (q : Int), (k : Int) + r = f 6 → 2 ≤ q → (frK f c k).1 = q + 1 → Rd f e m tol r q → (∀ j : Nat, k ≤ j → (j : Int) < f 6 → bt c (plc f j) = bt (phs f e m tol r q) (plc f j)) → (frK f c (k + r)).1 = m + 1 ∨ (frK f c (k + r)).1 = m
  | 0, k, q, hk, hq, hx, hR, hb => by
    rw [Nat.add_zero, hx]
    rcases hR with h | h
    · omega
    · omega
  | r + 1, k, q, hk, hq, hx, hR, hb => by
    obtain ⟨p1, p2⟩ := phs_b (f := f) e m tol h6 r k q (by omega)
    have hbk : fbit f c k = phb f e m tol r q := by unfold fbit; rw [hb k (Nat.le_refl k) (by omega), p1]
    have hbj : ∀ j : Nat, k + 1 ≤ j → (j : Int) < f 6 → bt c (plc f j) = bt (phs f e m tol r (phn f e m tol r q)) (plc f j) := fun j hj hj6 => by rw [hb j (by omega) hj6, p2 j (by omega) hj6]
    have key : (frK f c (k + 1)).1 = phn f e m tol r q + 1 ∧ Rd f e m tol r (phn f e m tol r q) ∧ 2 ≤ phn f e m tol r q := by
      rw [frK]
      rw [Rd_s] at hR
      by_cases hz : Rz f e m tol r q
      · have b0 : phb f e m tol r q = 0 := cif_t hz
        rw [b0] at hbk
        have hn : phn f e m tol r q = if q % 2 = 0 then q + 2 else q + 1 := cif_t hz
        rw [fst_0 hf hbk (by omega), hx, hn]
        unfold Rz at hz
        by_cases hq2 : q % 2 = 0
        · rw [if_pos hq2] at hz ⊢
          rw [if_neg (by omega)]
          exact ⟨by omega, hz.2, by omega⟩
        · rw [if_neg hq2] at hz ⊢
          rw [if_pos (by omega)]
          exact ⟨by omega, hz.2, by omega⟩
      · have b1 : phb f e m tol r q = 1 := cif_f hz
        rw [b1] at hbk
        have hn : phn f e m tol r q = if q % 2 = 0 then q + 1 else q + 2 := cif_f hz
        rw [fst_1 hf hbk (by omega), hx, hn]
        unfold Rz at hz
        by_cases hq2 : q % 2 = 0
        · rw [if_pos hq2] at hz ⊢
          rw [if_pos (by omega)]
          rcases hR with h | h
          · exact ⟨by omega, h.2, by omega⟩
          · exact absurd h hz
        · rw [if_neg hq2] at hz ⊢
          rw [if_neg (by omega)]
          rcases hR with h | h
          · exact absurd h hz
          · exact ⟨by omega, h.2, by omega⟩
    have := ph_len hf h6 r (k + 1) (phn f e m tol r q) (by omega) key.2.2 key.1 key.2.1 hbj
    rw [show k + 1 + r = k + (r + 1) by omega] at this
    exact this
theorem fcut_m {x : Dn} {m : Int} (hm : m % 2 = 1) (h : x.1 = m + 1 ∨ x.1 = m) : (fcut x).1 = m := by
  unfold fcut
  rcases h with h | h
  · rw [if_neg (by omega)]; show x.1 - 1 = m; omega
  · rw [if_pos (by omega)]; exact h
/-- a code's frame is as long as the frame it was read from -/
theorem xc_len {f e : Int → Int} {m tol : Int} (hP : PV f) (hm : m % 2 = 1) (hx : xcode f e m tol ≠ -9) : (frm f (xcode f e m tol)).1 = m := by
  obtain ⟨p0, p1, p2, p3, p4, h6, p7⟩ := id hP
  unfold frm
  by_cases h2 : f 0 = 2
  · have hxc : xcode f e m tol = phcode f e m tol := by unfold xcode; rw [if_pos h2]
    rw [hxc] at hx ⊢
    rw [if_neg (by omega)]
    refine fcut_m hm ?_
    unfold phcode at hx ⊢
    rcases cif_q (3 ≤ m ∧ m ≤ 2 * f 6 + 1 ∧ mt (e 0) (f 1) tol) (cif (ph0 f e m tol) (phs f e m tol (f 6 - 1).toNat 2) (cif (ph1 f e m tol) (pw (plc f 0) + phs f e m tol (f 6 - 1).toNat 3) (-9))) (-9) with ⟨hg, hq⟩ | ⟨hg, hq⟩
    case inr => exact absurd hq hx
    rw [hq] at hx ⊢
    have f2 : (frK f 0 0).1 = 2 := rfl
    have pl0 := plc_r (f := f) (k := 0) (by omega) (by omega)
    by_cases h0 : ph0 f e m tol
    · rw [cif_t h0] at hx ⊢
      obtain ⟨a1, a2⟩ := phs_r (f := f) e m tol 2 h6
      generalize hc : phs f e m tol (f 6 - 1).toNat 2 = c at *
      have hb0 : fbit f c 0 = 0 := a2
      have e1 : (frK f c 1).1 = 2 + 1 := by
        rw [frK, show ((0 : Nat) : Int) = 0 from rfl, fst_0 h2 hb0 (by show (0 : Int) < 2; decide)]; rfl
      have := ph_len (c := c) h2 h6 (f 6 - 1).toNat 1 2 (by omega) (by decide) e1 h0.2 (fun j hj hj6 => by rw [hc])
      rw [show 1 + (f 6 - 1).toNat = (f 6).toNat by omega] at this
      exact this
    · rw [cif_f h0] at hx ⊢
      by_cases h1 : ph1 f e m tol
      · rw [cif_t h1] at hx ⊢
        obtain ⟨a1, a2⟩ := phs_r (f := f) e m tol 3 h6
        generalize hc : phs f e m tol (f 6 - 1).toNat 3 = c at *
        have hb0 : fbit f (pw (plc f 0) + c) 0 = 1 := by unfold fbit; rw [Int.add_comm]; exact bt_self a2
        have e1 : (frK f (pw (plc f 0) + c) 1).1 = 3 + 1 := by
          rw [frK, show ((0 : Nat) : Int) = 0 from rfl, fst_1 h2 hb0 (by show (0 : Int) < 2; decide)]; rfl
        have := ph_len (c := pw (plc f 0) + c) h2 h6 (f 6 - 1).toNat 1 3 (by omega) (by decide) e1 h1.2.2 (fun j hj hj6 => by
          have pj := plc_r (f := f) (k := j) (by omega) hj6
          rw [hc, Int.add_comm]
          exact bt_add a1.1 (by omega) (by omega) (by omega) (by omega) (by omega) a2 (plc_inj (by omega)))
        rw [show 1 + (f 6 - 1).toNat = (f 6).toNat by omega] at this
        exact this
      · rw [cif_f h1] at hx; exact absurd rfl hx
  · have hxc : xcode f e m tol = pcode f e m tol := by unfold xcode; rw [if_neg h2]
    rw [hxc] at hx ⊢
    have hpk : pok f e m tol := by
      unfold pcode at hx
      rcases cif_q (pok f e m tol) (csum f (pbv f e tol) (f 6).toNat) (-9) with ⟨hg, hq⟩ | ⟨hg, hq⟩
      · exact hg
      · exact absurd hq hx
    have hk := frK_r (pcode f e m tol) hP (f 6).toNat
    have hmm := hpk.1
    refine fcut_m hm (Or.inr ?_)
    by_cases h0 : f 0 = 0
    · rw [if_pos h0]
      rw [if_neg (by omega)] at hmm
      have := hk.2.2.2.2.1 h0
      show (frK f (pcode f e m tol) (f 6).toNat).1 + 1 = m
      omega
    · rw [if_neg h0]
      rw [if_pos (by omega)] at hmm
      have := hk.2.2.2.2.2.1 (by omega) (by omega)
      omega
theorem dec1_v {F : Nat → Int → Int} {e : Int → Int} {m t : Int} : ∀ (k q : Nat), (dec1 F e m t k q).1 ≠ -9 → ∃ j, j < q + k ∧ dec1 F e m t k q = ((j : Int), xcode (F j) e m t) ∧ xcode (F j) e m t ≠ -9
  | 0, q, h => absurd rfl h
  | k + 1, q, h => by
    rw [dec1] at h ⊢
    by_cases hx : xcode (F q) e m t = -9
    · rw [if_pos hx] at h ⊢
      obtain ⟨j, a, b, c⟩ := dec1_v k (q + 1) h
      exact ⟨j, by omega, b, c⟩
    · rw [if_neg hx]
      exact ⟨q, by omega, rfl, hx⟩
theorem dec2_v {F : Nat → Int → Int} {e : Int → Int} {m t : Int} : ∀ (k q : Nat), dec2 F e m t k q ≠ -9 → ∃ j : Nat, j < q + k ∧ dec2 F e m t k q = (j : Int) ∧ xshort (F j) e m t
  | 0, q, h => absurd rfl h
  | k + 1, q, h => by
    rw [dec2] at h ⊢
    by_cases hx : xshort (F q) e m t
    · rw [cif_t hx]
      exact ⟨q, by omega, rfl, hx⟩
    · rw [cif_f hx] at h ⊢
      obtain ⟨j, a, b, c⟩ := dec2_v k (q + 1) h
      exact ⟨j, by omega, b, c⟩
/-- what was decoded is as long as it ought to be -/
theorem dec_len {F : Nat → Int → Int} {n : Nat} {e : Int → Int} {m t : Int} (hP : ∀ j, j < n → PV (F j)) (hm : m % 2 = 1) (h : (dec F n e m t).1 ≠ -9) : (0 ≤ (dec F n e m t).1 ∧ (dec F n e m t).1 < n) ∧ ((dec F n e m t).2 ≠ -9 → (frm (F (dec F n e m t).1.toNat) (dec F n e m t).2).1 = m) ∧ ((dec F n e m t).2 = -9 → m = 3) := by
  unfold dec at h ⊢
  by_cases h1 : (dec1 F e m t n 0).1 = -9
  · rw [if_pos h1] at h ⊢
    obtain ⟨j, a, b, c⟩ := dec2_v n 0 h
    simp only at h ⊢
    exact ⟨by omega, fun h => absurd rfl h, fun _ => c.2.1⟩
  · rw [if_neg h1]
    obtain ⟨j, a, b, c⟩ := dec1_v n 0 h1
    rw [b]
    simp only
    refine ⟨by omega, fun _ => ?_, fun h => absurd h c⟩
    rw [Int.toNat_natCast]
    exact xc_len (hP j (by omega)) hm c
