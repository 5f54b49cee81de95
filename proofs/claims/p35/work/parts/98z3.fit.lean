/-! A decoded frame is near to the frame of its code: with the tolerance that it was decoded with. -/
/-- every duration of x below k is met by e -/
def Ft (e : Int → Int) (x : Int → Int) (tol k : Int) : Prop := ∀ i, 0 ≤ i → i < k → mt (e i) (x i) tol
theorem Ft_le {e x : Int → Int} {tol k k' : Int} (h : Ft e x tol k) (hk : k' ≤ k) : Ft e x tol k' := fun i i0 i1 => h i i0 (by omega)
theorem flay_v {m v : Int} {x : Dn} (h : ¬(0 < x.1 ∧ x.1 % 2 = m)) (i : Int) : (flay m v x).2 i = if i = x.1 then v else x.2 i := by unfold flay; rw [if_neg h]; rfl
theorem flay_w {m v : Int} {x : Dn} (h : 0 < x.1 ∧ x.1 % 2 = m) (i : Int) : (flay m v x).2 i = if i = x.1 - 1 then x.2 (x.1 - 1) + v else x.2 i := by unfold flay; rw [if_pos h]
/-- what a bit does to the durations: the last is lengthened and one comes, or two come -/
theorem fsv_0 {f : Int → Int} {c k : Int} {x : Dn} (hf : f 0 = 2) (hb : fbit f c k = 0) (hx : 0 < x.1) (i : Int) : (fstep f c k x).2 i = if x.1 % 2 = 0 then (if i = x.1 then f 3 else if i = x.1 - 1 then x.2 (x.1 - 1) + f 3 else x.2 i) else (if i = x.1 + 1 then f 3 else if i = x.1 then f 3 else x.2 i) := by
  unfold fstep
  rw [if_pos hf, hb]
  by_cases h : x.1 % 2 = 0
  · have e := flay_j (m := 0) (v := f 3) (x := x) ⟨hx, h⟩
    rw [if_pos h, flay_v (by rw [e]; omega), e, flay_w ⟨hx, h⟩]
  · have e := flay_p (m := 0) (v := f 3) (x := x) (by omega)
    rw [if_neg h, flay_v (by rw [e]; omega), e, flay_v (by omega)]
theorem fsv_1 {f : Int → Int} {c k : Int} {x : Dn} (hf : f 0 = 2) (hb : fbit f c k = 1) (hx : 0 < x.1) (i : Int) : (fstep f c k x).2 i = if x.1 % 2 = 1 then (if i = x.1 then f 3 else if i = x.1 - 1 then x.2 (x.1 - 1) + f 3 else x.2 i) else (if i = x.1 + 1 then f 3 else if i = x.1 then f 3 else x.2 i) := by
  unfold fstep
  rw [if_pos hf, hb]
  by_cases h : x.1 % 2 = 1
  · have e := flay_j (m := 1) (v := f 3) (x := x) ⟨hx, h⟩
    rw [if_pos h, flay_v (by rw [e]; omega), e, flay_w ⟨hx, h⟩]
  · have e := flay_p (m := 1) (v := f 3) (x := x) (by omega)
    rw [if_neg h, flay_v (by rw [e]; omega), e, flay_v (by omega)]
/-- behind a bit that lengthens the last duration, which is open -/
theorem Ft_dbl {f e : Int → Int} {m tol q : Int} {x y : Dn} (hx : x.1 = q + 1) (hq : 2 ≤ q) (hF : Ft e x.2 tol q) (ho : x.2 q = f 3) (hd : dbl f e m tol q) (hy : ∀ i, y.2 i = if i = x.1 then f 3 else if i = x.1 - 1 then x.2 (x.1 - 1) + f 3 else x.2 i) : Ft e y.2 tol (q + 1) ∧ y.2 (q + 1) = f 3 := by
  refine ⟨fun i i0 i1 => ?_, ?_⟩
  · rw [hy i, if_neg (by omega)]
    by_cases hi : i = q
    · rw [if_pos (by omega), hi, show x.1 - 1 = q by omega, ho, show f 3 + f 3 = 2 * f 3 by omega]; exact hd.2.2
    · rw [if_neg (by omega)]; exact hF i i0 (by omega)
  · rw [hy, if_pos (by omega)]
theorem Ft_par {f e : Int → Int} {m tol q : Int} {x y : Dn} (hx : x.1 = q + 1) (hq : 2 ≤ q) (hF : Ft e x.2 tol q) (ho : x.2 q = f 3) (hd : par f e m tol q) (hy : ∀ i, y.2 i = if i = x.1 + 1 then f 3 else if i = x.1 then f 3 else x.2 i) : Ft e y.2 tol (q + 2) ∧ y.2 (q + 2) = f 3 := by
  refine ⟨fun i i0 i1 => ?_, ?_⟩
  · rw [hy i, if_neg (by omega)]
    by_cases hi : i = q + 1
    · rw [if_pos (by omega), hi]; exact hd.2.2.2
    · rw [if_neg (by omega)]
      by_cases hi2 : i = q
      · rw [hi2, ho]; exact hd.1.2.2
      · exact hF i i0 (by omega)
  · rw [hy, if_pos (by omega)]
theorem ph_fit {f e : Int → Int} {m tol c : Int} (hf : f 0 = 2) (h6 : 1 ≤ f 6 ∧ f 6 ≤ 16) : ∀ (r k : Nat) (q : Int), (k : Int) + r = f 6 → 2 ≤ q → (frK f c k).1 = q + 1 → Rd f e m tol r q → (∀ j : Nat, k ≤ j → (j : Int) < f 6 → bt c (plc f j) = bt (phs f e m tol r q) (plc f j)) → Ft e (frK f c k).2 tol q → (frK f c k).2 q = f 3 → Ft e (frK f c (k + r)).2 tol m
  | 0, k, q, hk, hq, hx, hR, hb, hF, ho => by
    rw [Nat.add_zero]
    rcases hR with h | h
    · rw [← h]; exact hF
    · intro i i0 i1
      by_cases hi : i = q
      · rw [hi, ho]; exact h.2.2.2
      · exact hF i i0 (by omega)
  | r + 1, k, q, hk, hq, hx, hR, hb, hF, ho => by
    obtain ⟨p1, p2⟩ := phs_b (f := f) e m tol h6 r k q (by omega)
    have hbk : fbit f c k = phb f e m tol r q := by unfold fbit; rw [hb k (Nat.le_refl k) (by omega), p1]
    have hbj : ∀ j : Nat, k + 1 ≤ j → (j : Int) < f 6 → bt c (plc f j) = bt (phs f e m tol r (phn f e m tol r q)) (plc f j) := fun j hj hj6 => by rw [hb j (by omega) hj6, p2 j (by omega) hj6]
    have key : (frK f c (k + 1)).1 = phn f e m tol r q + 1 ∧ Rd f e m tol r (phn f e m tol r q) ∧ 2 ≤ phn f e m tol r q ∧ (Ft e (frK f c (k + 1)).2 tol (phn f e m tol r q) ∧ (frK f c (k + 1)).2 (phn f e m tol r q) = f 3) := by
      rw [frK]
      rw [Rd_s] at hR
      by_cases hz : Rz f e m tol r q
      · have b0 : phb f e m tol r q = 0 := cif_t hz
        rw [b0] at hbk
        have hn : phn f e m tol r q = if q % 2 = 0 then q + 2 else q + 1 := cif_t hz
        have hv := fsv_0 (c := c) (k := k) (x := frK f c k) hf hbk (by omega)
        rw [fst_0 hf hbk (by omega), hx, hn]
        unfold Rz at hz
        by_cases hq2 : q % 2 = 0
        · rw [if_pos hq2] at hz ⊢
          rw [if_neg (by omega)]
          exact ⟨by omega, hz.2, by omega, Ft_par hx hq hF ho hz.1 (fun i => by rw [hv i, if_neg (by omega)])⟩
        · rw [if_neg hq2] at hz ⊢
          rw [if_pos (by omega)]
          exact ⟨by omega, hz.2, by omega, Ft_dbl hx hq hF ho hz.1 (fun i => by rw [hv i, if_pos (by omega)])⟩
      · have b1 : phb f e m tol r q = 1 := cif_f hz
        rw [b1] at hbk
        have hn : phn f e m tol r q = if q % 2 = 0 then q + 1 else q + 2 := cif_f hz
        have hv := fsv_1 (c := c) (k := k) (x := frK f c k) hf hbk (by omega)
        rw [fst_1 hf hbk (by omega), hx, hn]
        unfold Rz at hz
        by_cases hq2 : q % 2 = 0
        · rw [if_pos hq2] at hz ⊢
          rw [if_pos (by omega)]
          rcases hR with h | h
          · exact ⟨by omega, h.2, by omega, Ft_dbl hx hq hF ho h.1 (fun i => by rw [hv i, if_pos (by omega)])⟩
          · exact absurd h hz
        · rw [if_neg hq2] at hz ⊢
          rw [if_neg (by omega)]
          rcases hR with h | h
          · exact absurd h hz
          · exact ⟨by omega, h.2, by omega, Ft_par hx hq hF ho h.1 (fun i => by rw [hv i, if_neg (by omega)])⟩
    have := ph_fit hf h6 r (k + 1) (phn f e m tol r q) (by omega) key.2.2.1 key.1 key.2.1 hbj key.2.2.2.1 key.2.2.2.2
    rw [show k + 1 + r = k + (r + 1) by omega] at this
    exact this
theorem fcut_v (x : Dn) : (fcut x).2 = x.2 := by unfold fcut; split <;> rfl
theorem fput_v (v : Int) (x : Dn) (i : Int) : (fput v x).2 i = if i = x.1 then v else x.2 i := rfl
theorem fput_n (v : Int) (x : Dn) : (fput v x).1 = x.1 + 1 := rfl
/-- behind k bits by distance or width -/
theorem pl_fit {f e : Int → Int} {m tol c : Int} (h2 : f 0 ≠ 2) (hp : pok f e m tol) (hb : ∀ k : Nat, (k : Int) < f 6 → fbit f c k = pbv f e tol k) : ∀ k : Nat, (k : Int) ≤ f 6 → (frK f c k).1 = (if f 0 = 1 then (if k = 0 then 2 else 1 + 2 * (k : Int)) else 2 + 2 * (k : Int)) ∧ Ft e (frK f c k).2 tol (frK f c k).1
  | 0, _ => by
    obtain ⟨a, b, c', d, g⟩ := hp
    have e1 : (frK f c 0).1 = 2 := rfl
    refine ⟨?_, fun i i0 i1 => ?_⟩
    · rw [e1]; split
      · rfl
      · rfl
    · rw [e1] at i1
      have : (frK f c 0).2 i = if i = 1 then f 2 else if i = 0 then f 1 else 0 := rfl
      rw [this]
      have hi : i = 0 ∨ i = 1 := by omega
      rcases hi with rfl | rfl
      · exact b
      · exact c'
  | k + 1, hk => by
    obtain ⟨ih1, ih2⟩ := pl_fit h2 hp hb k (by omega)
    obtain ⟨a, b, c', d, g⟩ := hp
    have hbk := hb k (by omega)
    have hbit : mt (e (bpos f k)) (if fbit f c k = 1 then f 5 else f 4) tol := by
      rw [hbk]
      unfold pbv
      by_cases h4 : mt (e (bpos f k)) (f 4) tol
      · rw [cif_t h4, if_neg (by decide)]; exact h4
      · rw [cif_f h4, if_pos rfl]
        rcases g k (by omega) (by omega) with h | h
        · exact absurd h h4
        · exact h
    rw [frK]
    generalize frK f c k = x at *
    unfold fstep
    rw [if_neg h2]
    by_cases h1 : f 0 = 1
    · rw [if_pos h1] at ih1 a ⊢
      rw [if_pos h1]
      have hbp : bpos f k = 2 + 2 * k := by unfold bpos; rw [if_pos h1]
      rw [hbp] at hbit
      by_cases hk0 : (0 : Int) < (k : Int)
      · rw [if_pos hk0]
        rw [if_neg (by omega)] at ih1
        refine ⟨?_, fun i i0 i1 => ?_⟩
        · rw [fput_n, fput_n, if_neg (by omega)]; omega
        · rw [fput_n, fput_n] at i1
          rw [fput_v, fput_n]
          by_cases hi : i = x.1 + 1
          · rw [if_pos hi, hi, show x.1 + 1 = 2 + 2 * (k : Int) by omega]; exact hbit
          · rw [if_neg hi, fput_v]
            by_cases hi2 : i = x.1
            · rw [if_pos hi2]
              refine d i (by omega) (by omega) ?_
              rw [if_pos h1]; omega
            · rw [if_neg hi2]; exact ih2 i i0 (by omega)
      · rw [if_neg hk0]
        have hk0 : k = 0 := by omega
        subst hk0
        rw [if_pos rfl] at ih1
        refine ⟨?_, fun i i0 i1 => ?_⟩
        · rw [fput_n, if_neg (by omega)]; omega
        · rw [fput_n] at i1
          rw [fput_v]
          by_cases hi : i = x.1
          · rw [if_pos hi, hi, ih1]; exact hbit
          · rw [if_neg hi]; exact ih2 i i0 (by omega)
    · rw [if_neg h1] at ih1 a ⊢
      rw [if_neg h1]
      have hbp : bpos f k = 3 + 2 * k := by unfold bpos; rw [if_neg h1]
      rw [hbp] at hbit
      refine ⟨?_, fun i i0 i1 => ?_⟩
      · rw [fput_n, fput_n]; omega
      · rw [fput_n, fput_n] at i1
        rw [fput_v, fput_n]
        by_cases hi : i = x.1 + 1
        · rw [if_pos hi, hi, show x.1 + 1 = 3 + 2 * (k : Int) by omega]; exact hbit
        · rw [if_neg hi, fput_v]
          by_cases hi2 : i = x.1
          · rw [if_pos hi2]
            refine d i (by omega) (by omega) ?_
            rw [if_neg h1]; omega
          · rw [if_neg hi2]; exact ih2 i i0 (by omega)
/-- a bit of a code by distance or width -/
theorem csm_bt {f b : Int → Int} (hb : ∀ k : Nat, b k = 0 ∨ b k = 1) (h6 : 1 ≤ f 6 ∧ f 6 ≤ 16) : ∀ n : Nat, (n : Int) ≤ f 6 → ∀ k : Nat, k < n → bt (csum f b n) (plc f k) = b k
  | 0, _, k, hk => by omega
  | n + 1, hn, k, hk => by
    have hr := csum_r f b hb h6.2 n (by omega)
    have pn := plc_r (f := f) (k := n) (by omega) (by omega)
    have pk := plc_r (f := f) (k := k) (by omega) (by omega)
    have hz : bt (csum f b n) (plc f n) = 0 := csum_bt2 f b hb h6.2 n n (Or.inl (Nat.le_refl n)) (by omega) (by omega)
    rw [csum]
    by_cases hkn : k = n
    · subst hkn
      rcases hb k with h | h
      · rw [h, Int.zero_mul, Int.add_zero]; exact hz
      · rw [h, Int.one_mul]; exact bt_self hz
    · have ih := csm_bt hb h6 n (by omega) k (by omega)
      rcases hb n with h | h
      · rw [h, Int.zero_mul, Int.add_zero]; exact ih
      · rw [h, Int.one_mul, ← ih]
        exact bt_add hr.1 (by omega) (by omega) (by omega) (by omega) (by omega) hz (plc_inj (by omega))
