/-! The class's Decoder, whole. -/
theorem csum_bt2 (f b : Int → Int) (hb : ∀ k : Nat, b k = 0 ∨ b k = 1) (h6 : f 6 ≤ 16) : ∀ (n j : Nat), (n ≤ j ∨ b j = 0) → (j : Int) < f 6 → (n : Int) ≤ f 6 → bt (csum f b n) (plc f j) = 0
  | 0, j, _, _, _ => by simp [csum, bt]
  | n + 1, j, h, hj, hn => by
    have hr := csum_r f b hb h6 n (by omega)
    have p1 := plc_r (f := f) (k := n) (by omega) (by omega)
    have p2 := plc_r (f := f) (k := j) (by omega) (by omega)
    have ih2 := csum_bt2 f b hb h6 n n (Or.inl (Nat.le_refl n)) (by omega) (by omega)
    unfold csum
    by_cases hjn : j = n
    · subst hjn
      have h0 : b j = 0 := by
        rcases h with h | h
        · omega
        · exact h
      rw [h0, Int.zero_mul, Int.add_zero]; exact ih2
    · have ih := csum_bt2 f b hb h6 n j (h.elim (fun h => Or.inl (by omega)) Or.inr) hj (by omega)
      rcases hb n with h0 | h0
      · rw [h0, Int.zero_mul, Int.add_zero]; exact ih
      · rw [h0, Int.one_mul, bt_add hr.1 (by omega) (by omega) (by omega) (by omega) (by omega) ih2 (plc_inj (by omega))]; exact ih
theorem Rd_s (f e : Int → Int) (m tol : Int) (r : Nat) (q : Int) : Rd f e m tol (r + 1) q = (dbl f e m tol q ∧ Rd f e m tol r (q + 1) ∨ par f e m tol q ∧ Rd f e m tol r (q + 2)) := rfl
/-- the rest of a code by phase is a sum of its bits -/
theorem phs_csum (f e : Int → Int) (m tol : Int) : ∀ (r k : Nat) (q : Int) (b : Int → Int), (∀ j : Nat, b j = 0 ∨ b j = 1) → (k : Int) + r = f 6 → ∃ b' : Int → Int, (∀ j : Nat, b' j = 0 ∨ b' j = 1) ∧ (∀ j : Nat, j < k → b' j = b j) ∧ csum f b k + phs f e m tol r q = csum f b' (f 6).toNat
  | 0, k, q, b, hb, hk => ⟨b, hb, fun _ _ => rfl, by rw [show (f 6).toNat = k by omega]; simp [phs]⟩
  | r + 1, k, q, b, hb, hk => by
    have hv : phb f e m tol r q = 0 ∨ phb f e m tol r q = 1 := cif01 _
    obtain ⟨b', h1, h2, h3⟩ := phs_csum f e m tol r (k + 1) (phn f e m tol r q) (fun j => if j = k then phb f e m tol r q else b j) (by
      intro j
      show (if (j : Int) = k then phb f e m tol r q else b j) = 0 ∨ (if (j : Int) = k then phb f e m tol r q else b j) = 1
      split
      · exact hv
      · exact hb j) (by omega)
    have hc : ∀ n : Nat, n ≤ k → csum f (fun j => if j = k then phb f e m tol r q else b j) n = csum f b n := by
      intro n
      induction n with
      | zero => intro _; rfl
      | succ n ih => intro hn; rw [csum, csum, ih (by omega), if_neg (by omega)]
    refine ⟨b', h1, fun j hj => ?_, ?_⟩
    · rw [h2 j (by omega), if_neg (by omega)]
    · rw [← h3, phs, csum, hc k (Nat.le_refl k), if_pos rfl, show f 6 - ((r : Int) + 1) = k by omega]
      omega
theorem phs_r {f : Int → Int} (e : Int → Int) (m tol q : Int) (h6 : 1 ≤ f 6 ∧ f 6 ≤ 16) : (0 ≤ phs f e m tol (f 6 - 1).toNat q ∧ phs f e m tol (f 6 - 1).toNat q ≤ 524288) ∧ bt (phs f e m tol (f 6 - 1).toNat q) (plc f 0) = 0 := by
  obtain ⟨b', h1, h2, h3⟩ := phs_csum f e m tol (f 6 - 1).toNat 1 q (fun _ => 0) (fun _ => Or.inl rfl) (by omega)
  have h0 : csum f (fun _ => 0) 1 = 0 := by simp [csum]
  rw [h0, Int.zero_add] at h3
  rw [h3]
  have hr := csum_r f b' h1 h6.2 (f 6).toNat (by omega)
  refine ⟨⟨hr.1, by omega⟩, ?_⟩
  exact csum_bt2 f b' h1 h6.2 (f 6).toNat 0 (Or.inr (by rw [h2 0 (by omega)])) (by omega) (by omega)
theorem pcode_r {f : Int → Int} (e : Int → Int) (m tol : Int) (h6 : 1 ≤ f 6 ∧ f 6 ≤ 16) : (pcode f e m tol = -9 ∨ 0 ≤ pcode f e m tol) ∧ -9 ≤ pcode f e m tol ∧ pcode f e m tol ≤ 1000000 := by
  unfold pcode
  rcases cif_q (pok f e m tol) (csum f (pbv f e tol) (f 6).toNat) (-9) with ⟨_, h⟩ | ⟨_, h⟩
  · rw [h]
    have hr := csum_r f (pbv f e tol) (pbv_r f e tol) h6.2 (f 6).toNat (by omega)
    omega
  · rw [h]; omega
theorem phcode_r {f : Int → Int} (e : Int → Int) (m tol : Int) (h6 : 1 ≤ f 6 ∧ f 6 ≤ 16) : (phcode f e m tol = -9 ∨ 0 ≤ phcode f e m tol) ∧ -9 ≤ phcode f e m tol ∧ phcode f e m tol ≤ 1000000 := by
  have h1 := phs_r e m tol 2 h6
  have h2 := phs_r e m tol 3 h6
  have h3 := plc_r (f := f) (k := 0) (by omega) (by omega)
  have h4 := pw_r (k := plc f 0) (by omega) (by omega)
  unfold phcode
  rcases cif_q (3 ≤ m ∧ m ≤ 2 * f 6 + 1 ∧ mt (e 0) (f 1) tol) (cif (ph0 f e m tol) (phs f e m tol (f 6 - 1).toNat 2) (cif (ph1 f e m tol) (pw (plc f 0) + phs f e m tol (f 6 - 1).toNat 3) (-9))) (-9) with ⟨_, h⟩ | ⟨_, h⟩
  · rw [h]
    rcases cif_q (ph0 f e m tol) (phs f e m tol (f 6 - 1).toNat 2) (cif (ph1 f e m tol) (pw (plc f 0) + phs f e m tol (f 6 - 1).toNat 3) (-9)) with ⟨_, h⟩ | ⟨_, h⟩
    · rw [h]; omega
    · rw [h]
      rcases cif_q (ph1 f e m tol) (pw (plc f 0) + phs f e m tol (f 6 - 1).toNat 3) (-9) with ⟨_, h⟩ | ⟨_, h⟩
      · rw [h]; omega
      · rw [h]; omega
  · rw [h]; omega
theorem xcode_r {f : Int → Int} (e : Int → Int) (m tol : Int) (h6 : 1 ≤ f 6 ∧ f 6 ≤ 16) : (xcode f e m tol = -9 ∨ 0 ≤ xcode f e m tol) ∧ -9 ≤ xcode f e m tol ∧ xcode f e m tol ≤ 1000000 := by
  unfold xcode; split
  · exact phcode_r e m tol h6
  · exact pcode_r e m tol h6
theorem xcode_big {f : Int → Int} {e : Int → Int} {m tol : Int} (h6 : 1 ≤ f 6 ∧ f 6 ≤ 16) (hm : 35 < m) : xcode f e m tol = -9 := by
  unfold xcode; split
  · unfold phcode; rw [cif_f]; rintro ⟨_, h, _⟩; omega
  · unfold pcode; rw [cif_f]; rintro ⟨h, _⟩; split at h <;> omega
theorem dec_big {F : Nat → Int → Int} {n : Nat} {e : Int → Int} {m tol : Int} (h6 : ∀ q, q < n → 1 ≤ F q 6 ∧ F q 6 ≤ 16) (hm : 35 < m) : dec F n e m tol = (-9, -9) := by
  have h1 : ∀ k q, q + k = n → dec1 F e m tol k q = (-9, -9) := by
    intro k
    induction k with
    | zero => intro q _; rfl
    | succ k ih => intro q hq; rw [dec1, if_pos (xcode_big (h6 q (by omega)) hm)]; exact ih (q + 1) (by omega)
  have h2 : ∀ k q, q + k = n → dec2 F e m tol k q = -9 := by
    intro k
    induction k with
    | zero => intro q _; rfl
    | succ k ih => intro q hq; rw [dec2, cif_f (by rintro ⟨_, h, _⟩; omega)]; exact ih (q + 1) (by omega)
  unfold dec; rw [h1 n 0 (by omega), if_pos rfl, h2 n 0 (by omega)]
theorem dec1_r {F : Nat → Int → Int} {e : Int → Int} {m tol : Int} : ∀ (n q : Nat), (∀ j, j < q + n → 1 ≤ F j 6 ∧ F j 6 ≤ 16) → dec1 F e m tol n q = (-9, -9) ∨ (∃ j : Nat, q ≤ j ∧ j < q + n ∧ (dec1 F e m tol n q).1 = j ∧ 0 ≤ (dec1 F e m tol n q).2 ∧ (dec1 F e m tol n q).2 ≤ 1000000)
  | 0, q, _ => Or.inl rfl
  | n + 1, q, h => by
    rw [dec1]
    have hx := xcode_r e m tol (h q (by omega))
    split
    · rcases dec1_r (F := F) (e := e) (m := m) (tol := tol) n (q + 1) (fun j hj => h j (by omega)) with h1 | ⟨j, a, b, c⟩
      · exact Or.inl h1
      · exact Or.inr ⟨j, by omega, by omega, c⟩
    · exact Or.inr ⟨q, by omega, by omega, rfl, by omega, by omega⟩
/-- what decoding can give -/
theorem dec_r {F : Nat → Int → Int} {n : Nat} {e : Int → Int} {m tol : Int} (h6 : ∀ j, j < n → 1 ≤ F j 6 ∧ F j 6 ≤ 16) : dec F n e m tol = (-9, -9) ∨ (∃ j : Nat, j < n ∧ (dec F n e m tol).1 = j ∧ ((dec F n e m tol).2 = -9 ∨ 0 ≤ (dec F n e m tol).2 ∧ (dec F n e m tol).2 ≤ 1000000)) := by
  unfold dec
  rcases dec1_r (F := F) (e := e) (m := m) (tol := tol) n 0 (fun j hj => h6 j (by omega)) with h1 | ⟨j, a, b, c, d⟩
  · rw [h1, if_pos rfl]
    rcases dec2_r F e m tol n 0 with h | h
    · rw [h]; exact Or.inl rfl
    · refine Or.inr ⟨(dec2 F e m tol n 0).toNat, by omega, by simp only; omega, Or.inl rfl⟩
  · rw [if_neg (by omega)]
    exact Or.inr ⟨j, by omega, c, Or.inr d⟩
section
variable {p : Nat → Nat} {z l : Nat → Int → Int}
theorem w_phase {q : Nat} {e f : Int → Int} {m tol : Int} (hq : isP q) (hf : z q = f) (hP : PV f) (hD : De z e m tol) (hE : Eg e m tol) : WP (f_X2_phaseCode 40 q (M p z l)) (fun r => ∃ l', r = (I3 (phcode f e m tol), M p z l') ∧ ∀ k, k ≠ 42 → l' k = l k) := by
  have hP' := hP
  obtain ⟨p0, p1, p2, p3, p4, p5, p6, p7⟩ := hP'
  have hm35 := hE.1
  have hz3 : z 40 3 = m := hD.1
  have bad : ¬(3 ≤ m ∧ m ≤ 2 * f 6 + 1 ∧ mt (e 0) (f 1) tol) → phcode f e m tol = -9 := fun h => cif_f h
  unfold f_X2_phaseCode
  simp (disch := first | assumption | omega) only [↓b_hid, bH_some, ↓hid_W, ↓W_ite, WI_t, WI_f, W_some, I3_a, I3_s, I3_m, I3_n, I3_l, I3_lt, I3_le, I3_e, I3_dv, I3_rm, I3_mx, I3_mn, I3_ab, cI, bI_0, bI_1, rZ_b, up_same, up_row, up_col, xr_some, LQ_r, LQ_l, Int.sub_self, Int.add_zero, Int.zero_add, Int.sub_zero, Int.neg_neg, not_true_eq_false, not_false_eq_true, Int.add_sub_cancel, gI_40, pI_40, iO_40, gR_40_2, aI_41, sI_41, gR_40_5, hz3]
  refine WI_i (fun h => ?_) (fun hm3 => ?_)
  · simp (disch := first | assumption | omega) only [↓b_hid, bH_some, ↓hid_W, ↓W_ite, WI_t, WI_f, W_some, I3_a, I3_s, I3_m, I3_n, I3_l, I3_lt, I3_le, I3_e, I3_dv, I3_rm, I3_mx, I3_mn, I3_ab, cI, bI_0, bI_1, rZ_b, up_same, up_row, up_col, xr_some, LQ_r, LQ_l, Int.sub_self, Int.add_zero, Int.zero_add, Int.sub_zero, Int.neg_neg, not_true_eq_false, not_false_eq_true, Int.add_sub_cancel]; exact ⟨l, by rw [bad (by omega)], fun _ _ => rfl⟩
  simp (disch := first | assumption | omega) only [↓b_hid, bH_some, ↓hid_W, ↓W_ite, WI_t, WI_f, W_some, I3_a, I3_s, I3_m, I3_n, I3_l, I3_lt, I3_le, I3_e, I3_dv, I3_rm, I3_mx, I3_mn, I3_ab, cI, bI_0, bI_1, rZ_b, up_same, up_row, up_col, xr_some, LQ_r, LQ_l, Int.sub_self, Int.add_zero, Int.zero_add, Int.sub_zero, Int.neg_neg, not_true_eq_false, not_false_eq_true, Int.add_sub_cancel, gI_40, pI_40, iO_40, gR_40_2, aI_41, sI_41, gR_40_5, gI_P, pI_P, iO_P, hz3, hf]
  refine WI_i (fun h => ?_) (fun hm2 => ?_)
  · simp (disch := first | assumption | omega) only [↓b_hid, bH_some, ↓hid_W, ↓W_ite, WI_t, WI_f, W_some, I3_a, I3_s, I3_m, I3_n, I3_l, I3_lt, I3_le, I3_e, I3_dv, I3_rm, I3_mx, I3_mn, I3_ab, cI, bI_0, bI_1, rZ_b, up_same, up_row, up_col, xr_some, LQ_r, LQ_l, Int.sub_self, Int.add_zero, Int.zero_add, Int.sub_zero, Int.neg_neg, not_true_eq_false, not_false_eq_true, Int.add_sub_cancel]; exact ⟨l, by rw [bad (by omega)], fun _ _ => rfl⟩
  have f1 := g_fits (p := p) (l := l) hD hE (show (0 : Int) ≤ 0 by omega) (by omega) (show 0 ≤ f 1 by omega) (by omega)
  simp (disch := first | assumption | omega) only [↓b_hid, bH_some, ↓hid_W, ↓W_ite, WI_t, WI_f, W_some, I3_a, I3_s, I3_m, I3_n, I3_l, I3_lt, I3_le, I3_e, I3_dv, I3_rm, I3_mx, I3_mn, I3_ab, cI, bI_0, bI_1, rZ_b, up_same, up_row, up_col, xr_some, LQ_r, LQ_l, Int.sub_self, Int.add_zero, Int.zero_add, Int.sub_zero, Int.neg_neg, not_true_eq_false, not_false_eq_true, Int.add_sub_cancel, gI_40, pI_40, iO_40, gR_40_2, aI_41, sI_41, gR_40_5, gI_P, pI_P, iO_P, hf, f1]
  refine WI_i (fun h => ?_) (fun hh => ?_)
  · simp (disch := first | assumption | omega) only [↓b_hid, bH_some, ↓hid_W, ↓W_ite, WI_t, WI_f, W_some, I3_a, I3_s, I3_m, I3_n, I3_l, I3_lt, I3_le, I3_e, I3_dv, I3_rm, I3_mx, I3_mn, I3_ab, cI, bI_0, bI_1, rZ_b, up_same, up_row, up_col, xr_some, LQ_r, LQ_l, Int.sub_self, Int.add_zero, Int.zero_add, Int.sub_zero, Int.neg_neg, not_true_eq_false, not_false_eq_true, Int.add_sub_cancel]; exact ⟨l, by rw [bad (fun hx => h hx.2.2)], fun _ _ => rfl⟩
  have hgood : 3 ≤ m ∧ m ≤ 2 * f 6 + 1 ∧ mt (e 0) (f 1) tol := ⟨by omega, by omega, Classical.byContradiction hh⟩
  simp (disch := first | assumption | omega) only [↓b_hid, bH_some, ↓hid_W, ↓W_ite, WI_t, WI_f, W_some, I3_a, I3_s, I3_m, I3_n, I3_l, I3_lt, I3_le, I3_e, I3_dv, I3_rm, I3_mx, I3_mn, I3_ab, cI, bI_0, bI_1, rZ_b, up_same, up_row, up_col, xr_some, LQ_r, LQ_l, Int.sub_self, Int.add_zero, Int.zero_add, Int.sub_zero, Int.neg_neg, not_true_eq_false, not_false_eq_true, Int.add_sub_cancel, gI_40, pI_40, iO_40, gR_40_2, aI_41, sI_41, gR_40_5, gI_P, pI_P, iO_P, hf]
  refine W_bH (W_imp (g_places hD hE (by omega) (by omega) (by omega)) ?_)
  rintro ⟨sg, _⟩ ⟨rfl, hsg⟩
  have hsg : Pl sg (sgl f e m tol) := hsg
  simp (disch := first | assumption | omega) only [↓b_hid, bH_some, ↓hid_W, ↓W_ite, WI_t, WI_f, W_some, I3_a, I3_s, I3_m, I3_n, I3_l, I3_lt, I3_le, I3_e, I3_dv, I3_rm, I3_mx, I3_mn, I3_ab, cI, bI_0, bI_1, rZ_b, up_same, up_row, up_col, xr_some, LQ_r, LQ_l, Int.sub_self, Int.add_zero, Int.zero_add, Int.sub_zero, Int.neg_neg, not_true_eq_false, not_false_eq_true, Int.add_sub_cancel, gI_40, pI_40, iO_40, gR_40_2, aI_41, sI_41, gR_40_5, gI_P, pI_P, iO_P, hf]
  refine W_bH (W_imp (g_places hD hE (by omega) (by omega) (by omega)) ?_)
  rintro ⟨db, _⟩ ⟨rfl, hdb⟩
  have hdb : Pl db (dbl f e m tol) := hdb
  have hmn : (if (16 : Int) < f 6 then 16 else f 6) = f 6 := if_neg (by omega)
  simp (disch := first | assumption | omega) only [↓b_hid, bH_some, ↓hid_W, ↓W_ite, WI_t, WI_f, W_some, I3_a, I3_s, I3_m, I3_n, I3_l, I3_lt, I3_le, I3_e, I3_dv, I3_rm, I3_mx, I3_mn, I3_ab, cI, bI_0, bI_1, rZ_b, up_same, up_row, up_col, xr_some, LQ_r, LQ_l, Int.sub_self, Int.add_zero, Int.zero_add, Int.sub_zero, Int.neg_neg, not_true_eq_false, not_false_eq_true, Int.add_sub_cancel, gI_40, pI_40, iO_40, gR_40_2, aI_41, sI_41, gR_40_5, gI_P, pI_P, iO_P, hf, hz3, hmn]
  have hus1 : usr sg 1 = usr sg (I3 1) := rfl
  have hpr : Pl (sg &&& usr sg (I3 1)) (par f e m tol) := by
    intro i hi
    rw [mem_and, mem_usr sg (by omega) (by omega), Bool.and_eq_true, hsg i hi]
    by_cases h63 : i + 1 < 64
    · have h1 := hsg (1 + i) (by omega)
      rw [show (1 : Int).toNat + i = 1 + i from rfl, h1, show ((1 + i : Nat) : Int) = (i : Int) + 1 by omega]
      exact Iff.rfl
    · constructor
      · rintro ⟨h1, _⟩; have := h1.2.1; omega
      · rintro ⟨h1, _⟩; have := h1.2.1; omega
  have hrest : Pl (sg &&& shl 1 (I3 (m - 1)) ||| shl 1 (I3 m)) (Rd f e m tol 0) := by
    intro i hi
    rw [mem_or, mem_and, mem_shl (by omega) (by omega) hi, mem_shl (by omega) (by omega) hi, Bool.or_eq_true, Bool.and_eq_true, hsg i hi, decide_eq_true_iff, decide_eq_true_iff]
    unfold Rd
    constructor
    · rintro (⟨h1, h2⟩ | h)
      · exact Or.inr ⟨h2, h1⟩
      · exact Or.inl h
    · rintro (h | ⟨h1, h2⟩)
      · exact Or.inr h
      · exact Or.inl ⟨h2, h1⟩
  generalize sg &&& usr sg (I3 1) = pr at *
  generalize sg &&& shl 1 (I3 (m - 1)) ||| shl 1 (I3 m) = rest at *
  have hm33 : 3 ≤ m ∧ m ≤ 33 := by omega
  unfold f_X2_phaseCode_96
  refine lp_W (fun n s => ∃ (k : Nat) (x : Int64) (l' : Nat → Int → Int), s = (40, q, sg, db, pr, x, I3 k, M p z l') ∧ (k : Int) ≤ f 6 ∧ k = n ∧ Pl x (Rd f e m tol (f 6 - k).toNat) ∧ (∀ j : Nat, k < j → (j : Int) ≤ f 6 → Pl (I6 (l' 42 j)) (Rd f e m tol (f 6 - j).toNat)) ∧ ∀ k, k ≠ 42 → l' k = l k) (fun n s hs => ?_) ⟨(f 6).toNat, rest, l, ?_, by omega, rfl, ?_, by intro j h1 h2; omega, fun _ _ => rfl⟩
  · obtain ⟨k, x, l', rfl, hk, rfl, hx, hO, hl⟩ := hs
    unfold f_X2_phaseCode_96_b
    by_cases hk1 : 1 ≤ k
    · have e2 : usr x 1 = usr x (I3 1) := rfl
      have e3 : usr x 2 = usr x (I3 2) := rfl
      have e4 : (k : Int) + -1 = ((k - 1 : Nat) : Int) := by omega
      simp (disch := first | assumption | omega) only [↓b_hid, bH_some, ↓hid_W, ↓W_ite, WI_t, WI_f, W_some, I3_a, I3_s, I3_m, I3_n, I3_l, I3_lt, I3_le, I3_e, I3_dv, I3_rm, I3_mx, I3_mn, I3_ab, cI, bI_0, bI_1, rZ_b, up_same, up_row, up_col, xr_some, LQ_r, LQ_l, Int.sub_self, Int.add_zero, Int.zero_add, Int.sub_zero, Int.neg_neg, not_true_eq_false, not_false_eq_true, Int.add_sub_cancel, gI_40, pI_40, iO_40, gR_40_2, aI_41, sI_41, gR_40_5, sL_42, e4, WI_pos, WI_neg]
      refine ⟨k - 1, by omega, k - 1, _, _, rfl, by omega, rfl, ?_, ?_, ?_⟩
      · have er : (f 6 - ((k - 1 : Nat) : Int)).toNat = (f 6 - (k : Int)).toNat + 1 := by omega
        rw [er]
        intro i hi
        rw [mem_or, mem_and, mem_and, mem_usr x (by omega) (by omega), mem_usr x (by omega) (by omega), Bool.or_eq_true, Bool.and_eq_true, Bool.and_eq_true, hdb i hi, hpr i hi]
        by_cases h62 : i < 62
        · have h1 := hx (1 + i) (by omega)
          have h2 := hx (2 + i) (by omega)
          rw [show (1 : Int).toNat + i = 1 + i from rfl, show (2 : Int).toNat + i = 2 + i from rfl, h1, h2, show ((1 + i : Nat) : Int) = (i : Int) + 1 by omega, show ((2 + i : Nat) : Int) = (i : Int) + 2 by omega]
          rw [Rd_s]
          constructor
          · rintro (⟨h, h'⟩ | ⟨h, h'⟩)
            · exact Or.inl ⟨h', h⟩
            · exact Or.inr ⟨h', h⟩
          · rintro (⟨h, h'⟩ | ⟨h, h'⟩)
            · exact Or.inl ⟨h', h⟩
            · exact Or.inr ⟨h', h⟩
        · constructor
          · rintro (⟨_, h⟩ | ⟨_, h⟩)
            · have := h.2.1; omega
            · have := h.1.2.1; omega
          · rintro (⟨h, _⟩ | ⟨h, _⟩)
            · have := h.2.1; omega
            · have := h.1.2.1; omega
      · intro j h1 h2
        by_cases hj : j = k
        · subst hj; rw [up_same, I6_t]; exact hx
        · rw [up_col (by omega)]; exact hO j (by omega) h2
      · intro j hj; rw [up_row hj]; exact hl j hj
    · have hk0 : k = 0 := by omega
      subst hk0
      have hO1 := hO 1 (by omega) (by omega)
      have hOr : ∀ k : Nat, 1 ≤ k → (k : Int) ≤ f 6 → Pl (I6 (l' 42 k)) (Rd f e m tol (f 6 - k).toNat) := fun k h1 h2 => hO k (by omega) h2
      have m2 := hO1 2 (by omega)
      have m3 := hO1 3 (by omega)
      have ms2 := hsg 2 (by omega)
      have hg1 := g_fits (p := p) (l := l') hD hE (show (0 : Int) ≤ 1 by omega) (by omega) (show 0 ≤ f 2 + f 3 by omega) (by omega)
      have hg2 := g_fits (p := p) (l := l') hD hE (show (0 : Int) ≤ 1 by omega) (by omega) (show 0 ≤ f 2 by omega) (by omega)
      simp (disch := first | assumption | omega) only [↓b_hid, bH_some, ↓hid_W, ↓W_ite, WI_t, WI_f, W_some, I3_a, I3_s, I3_m, I3_n, I3_l, I3_lt, I3_le, I3_e, I3_dv, I3_rm, I3_mx, I3_mn, I3_ab, cI, bI_0, bI_1, rZ_b, up_same, up_row, up_col, xr_some, LQ_r, LQ_l, Int.sub_self, Int.add_zero, Int.zero_add, Int.sub_zero, Int.neg_neg, not_true_eq_false, not_false_eq_true, Int.add_sub_cancel, WI_pos, WI_neg]
      refine W_xr ?_
      simp only [LQ_r]
      have hph : ∀ v, v = cif (ph0 f e m tol) (phs f e m tol (f 6 - 1).toNat 2) (cif (ph1 f e m tol) (pw (plc f 0) + phs f e m tol (f 6 - 1).toNat 3) (-9)) → phcode f e m tol = v := fun v hv => by rw [hv]; exact cif_t hgood
      have second : ¬ph0 f e m tol → WP (f_X2_phaseCode_175 40 q sg db pr (M p z l')) (fun r => ∃ l', r = (I3 (phcode f e m tol), M p z l') ∧ ∀ k, k ≠ 42 → l' k = l k) := by
        intro h0
        have hph1 := hph _ rfl
        rw [cif_f h0] at hph1
        unfold f_X2_phaseCode_175
        simp (disch := first | assumption | omega) only [↓b_hid, bH_some, ↓hid_W, ↓W_ite, WI_t, WI_f, W_some, I3_a, I3_s, I3_m, I3_n, I3_l, I3_lt, I3_le, I3_e, I3_dv, I3_rm, I3_mx, I3_mn, I3_ab, cI, bI_0, bI_1, rZ_b, up_same, up_row, up_col, xr_some, LQ_r, LQ_l, Int.sub_self, Int.add_zero, Int.zero_add, Int.sub_zero, Int.neg_neg, not_true_eq_false, not_false_eq_true, Int.add_sub_cancel, gI_P, pI_P, iO_P, gI_40, pI_40, iO_40, gR_40_2, aI_41, sI_41, gR_40_5, hf, hg2]
        refine WI_i (fun h => ?_) (fun h => ?_)
        · simp (disch := first | assumption | omega) only [↓b_hid, bH_some, ↓hid_W, ↓W_ite, WI_t, WI_f, W_some, I3_a, I3_s, I3_m, I3_n, I3_l, I3_lt, I3_le, I3_e, I3_dv, I3_rm, I3_mx, I3_mn, I3_ab, cI, bI_0, bI_1, rZ_b, up_same, up_row, up_col, xr_some, LQ_r, LQ_l, Int.sub_self, Int.add_zero, Int.zero_add, Int.sub_zero, Int.neg_neg, not_true_eq_false, not_false_eq_true, Int.add_sub_cancel]; exact ⟨l', by rw [hph1, cif_f (fun hx => h hx.1)], hl⟩
        simp (disch := first | assumption | omega) only [↓b_hid, bH_some, ↓hid_W, ↓W_ite, WI_t, WI_f, W_some, I3_a, I3_s, I3_m, I3_n, I3_l, I3_lt, I3_le, I3_e, I3_dv, I3_rm, I3_mx, I3_mn, I3_ab, cI, bI_0, bI_1, rZ_b, up_same, up_row, up_col, xr_some, LQ_r, LQ_l, Int.sub_self, Int.add_zero, Int.zero_add, Int.sub_zero, Int.neg_neg, not_true_eq_false, not_false_eq_true, Int.add_sub_cancel, gI_40, pI_40, iO_40, gR_40_2, aI_41, sI_41, gR_40_5, g_isIn]
        refine WI_i (fun h' => ?_) (fun h' => ?_)
        · simp (disch := first | assumption | omega) only [↓b_hid, bH_some, ↓hid_W, ↓W_ite, WI_t, WI_f, W_some, I3_a, I3_s, I3_m, I3_n, I3_l, I3_lt, I3_le, I3_e, I3_dv, I3_rm, I3_mx, I3_mn, I3_ab, cI, bI_0, bI_1, rZ_b, up_same, up_row, up_col, xr_some, LQ_r, LQ_l, Int.sub_self, Int.add_zero, Int.zero_add, Int.sub_zero, Int.neg_neg, not_true_eq_false, not_false_eq_true, Int.add_sub_cancel]; exact ⟨l', by rw [hph1, cif_f (fun hx => h' (ms2.mpr hx.2.1))], hl⟩
        simp (disch := first | assumption | omega) only [↓b_hid, bH_some, ↓hid_W, ↓W_ite, WI_t, WI_f, W_some, I3_a, I3_s, I3_m, I3_n, I3_l, I3_lt, I3_le, I3_e, I3_dv, I3_rm, I3_mx, I3_mn, I3_ab, cI, bI_0, bI_1, rZ_b, up_same, up_row, up_col, xr_some, LQ_r, LQ_l, Int.sub_self, Int.add_zero, Int.zero_add, Int.sub_zero, Int.neg_neg, not_true_eq_false, not_false_eq_true, Int.add_sub_cancel, gI_40, pI_40, iO_40, gR_40_2, aI_41, sI_41, gR_40_5, aL_42, g_isIn]
        refine WI_i (fun h'' => ?_) (fun h'' => ?_)
        · simp (disch := first | assumption | omega) only [↓b_hid, bH_some, ↓hid_W, ↓W_ite, WI_t, WI_f, W_some, I3_a, I3_s, I3_m, I3_n, I3_l, I3_lt, I3_le, I3_e, I3_dv, I3_rm, I3_mx, I3_mn, I3_ab, cI, bI_0, bI_1, rZ_b, up_same, up_row, up_col, xr_some, LQ_r, LQ_l, Int.sub_self, Int.add_zero, Int.zero_add, Int.sub_zero, Int.neg_neg, not_true_eq_false, not_false_eq_true, Int.add_sub_cancel]; exact ⟨l', by rw [hph1, cif_f (fun hx => h'' (m3.mpr hx.2.2))], hl⟩
        have hR3 : Rd f e m tol (f 6 - 1).toNat 3 := m3.mp (Classical.byContradiction h'')
        have gm := g_mask (p := p) (z := z) (l := l') (k := 0) hq (by omega) (by rw [hf]; omega) (by rw [hf]; omega) (by rw [hf]; omega)
        rw [hf] at gm
        have gr := g_rest (p := p) (q0 := 3) hq hf hP hm33 hpr hdb hOr (by omega) hR3
        have hp := phs_r e m tol 3 p5
        have hor := or_pw hp.1.1 hp.2
        rw [Int32.or_comm] at hor
        simp (disch := first | assumption | omega) only [↓b_hid, bH_some, ↓hid_W, ↓W_ite, WI_t, WI_f, W_some, I3_a, I3_s, I3_m, I3_n, I3_l, I3_lt, I3_le, I3_e, I3_dv, I3_rm, I3_mx, I3_mn, I3_ab, cI, bI_0, bI_1, rZ_b, up_same, up_row, up_col, xr_some, LQ_r, LQ_l, Int.sub_self, Int.add_zero, Int.zero_add, Int.sub_zero, Int.neg_neg, not_true_eq_false, not_false_eq_true, Int.add_sub_cancel, gI_40, pI_40, iO_40, gR_40_2, aI_41, sI_41, gR_40_5, iO_P, gm, gr, hor]
        refine ⟨l', ?_, hl⟩
        rw [hph1, cif_t ⟨Classical.byContradiction h, ms2.mp (Classical.byContradiction h'), hR3⟩, Int.add_comm]
      unfold f_X2_phaseCode_134
      simp (disch := first | assumption | omega) only [↓b_hid, bH_some, ↓hid_W, ↓W_ite, WI_t, WI_f, W_some, I3_a, I3_s, I3_m, I3_n, I3_l, I3_lt, I3_le, I3_e, I3_dv, I3_rm, I3_mx, I3_mn, I3_ab, cI, bI_0, bI_1, rZ_b, up_same, up_row, up_col, xr_some, LQ_r, LQ_l, Int.sub_self, Int.add_zero, Int.zero_add, Int.sub_zero, Int.neg_neg, not_true_eq_false, not_false_eq_true, Int.add_sub_cancel, gI_P, pI_P, iO_P, gI_40, pI_40, iO_40, gR_40_2, aI_41, sI_41, gR_40_5, hf, hg1]
      refine WI_i (fun h => ?_) (fun h => ?_)
      · simp (disch := first | assumption | omega) only [↓b_hid, bH_some, ↓hid_W, ↓W_ite, WI_t, WI_f, W_some, I3_a, I3_s, I3_m, I3_n, I3_l, I3_lt, I3_le, I3_e, I3_dv, I3_rm, I3_mx, I3_mn, I3_ab, cI, bI_0, bI_1, rZ_b, up_same, up_row, up_col, xr_some, LQ_r, LQ_l, Int.sub_self, Int.add_zero, Int.zero_add, Int.sub_zero, Int.neg_neg, not_true_eq_false, not_false_eq_true, Int.add_sub_cancel]; exact second (fun hx => h hx.1)
      simp (disch := first | assumption | omega) only [↓b_hid, bH_some, ↓hid_W, ↓W_ite, WI_t, WI_f, W_some, I3_a, I3_s, I3_m, I3_n, I3_l, I3_lt, I3_le, I3_e, I3_dv, I3_rm, I3_mx, I3_mn, I3_ab, cI, bI_0, bI_1, rZ_b, up_same, up_row, up_col, xr_some, LQ_r, LQ_l, Int.sub_self, Int.add_zero, Int.zero_add, Int.sub_zero, Int.neg_neg, not_true_eq_false, not_false_eq_true, Int.add_sub_cancel, gI_40, pI_40, iO_40, gR_40_2, aI_41, sI_41, gR_40_5, aL_42, g_isIn]
      refine WI_i (fun h' => ?_) (fun h' => ?_)
      · simp (disch := first | assumption | omega) only [↓b_hid, bH_some, ↓hid_W, ↓W_ite, WI_t, WI_f, W_some, I3_a, I3_s, I3_m, I3_n, I3_l, I3_lt, I3_le, I3_e, I3_dv, I3_rm, I3_mx, I3_mn, I3_ab, cI, bI_0, bI_1, rZ_b, up_same, up_row, up_col, xr_some, LQ_r, LQ_l, Int.sub_self, Int.add_zero, Int.zero_add, Int.sub_zero, Int.neg_neg, not_true_eq_false, not_false_eq_true, Int.add_sub_cancel]; exact second (fun hx => h' (m2.mpr hx.2))
      have hR2 : Rd f e m tol (f 6 - 1).toNat 2 := m2.mp (Classical.byContradiction h')
      have gr := g_rest (p := p) (q0 := 2) hq hf hP hm33 hpr hdb hOr (by omega) hR2
      simp (disch := first | assumption | omega) only [↓b_hid, bH_some, ↓hid_W, ↓W_ite, WI_t, WI_f, W_some, I3_a, I3_s, I3_m, I3_n, I3_l, I3_lt, I3_le, I3_e, I3_dv, I3_rm, I3_mx, I3_mn, I3_ab, cI, bI_0, bI_1, rZ_b, up_same, up_row, up_col, xr_some, LQ_r, LQ_l, Int.sub_self, Int.add_zero, Int.zero_add, Int.sub_zero, Int.neg_neg, not_true_eq_false, not_false_eq_true, Int.add_sub_cancel, gI_40, pI_40, iO_40, gR_40_2, aI_41, sI_41, gR_40_5, iO_P, gr]
      refine ⟨l', ?_, hl⟩
      rw [hph _ rfl, cif_t ⟨Classical.byContradiction h, hR2⟩]
  · rw [show (((f 6).toNat : Nat) : Int) = f 6 by omega]
  · rw [show (f 6 - (((f 6).toNat : Nat) : Int)).toNat = 0 by omega]; exact hrest
/-- the frame's durations are taken -/
theorem w_take {i : Nat} {n gap : Int} {d : Int → Int} (h : Fs z n d gap) (h0 : 0 ≤ n) (h1 : n ≤ 200) (hi : i < (FS d n gap).length) : WP (f_X2_take 40 35 (I3 i) (M p z l)) (fun r => ∃ z', r = (I3 (bI ((gl (FS d n gap) i).2 ≤ 35)), M p z' l) ∧ z' 40 3 = (gl (FS d n gap) i).2 ∧ ((gl (FS d n gap) i).2 ≤ 35 → ∀ k, 0 ≤ k → k < (gl (FS d n gap) i).2 → z' 41 k = d ((gl (FS d n gap) i).1 + k)) ∧ (∀ k, k ≠ 40 → k ≠ 41 → z' k = z k) ∧ ∀ j, j ≠ 3 → z' 40 j = z 40 j) := by
  obtain ⟨g1, g2, g3, g4, g5⟩ := FS_g h0 hi
  have e1 := g_sizeOf (p := p) (l := l) h h0 h1 hi
  unfold f_X2_take
  simp (disch := first | assumption | omega) only [↓b_hid, bH_some, ↓hid_W, ↓W_ite, WI_t, WI_f, W_some, I3_a, I3_s, I3_m, I3_n, I3_l, I3_lt, I3_le, I3_e, I3_dv, I3_rm, I3_mx, I3_mn, I3_ab, cI, bI_0, bI_1, rZ_b, up_same, up_row, up_col, xr_some, LQ_r, LQ_l, Int.sub_self, Int.add_zero, Int.zero_add, Int.sub_zero, Int.neg_neg, not_true_eq_false, not_false_eq_true, Int.add_sub_cancel, gI_35, pI_35, iO_35, gR_35_0, aI_36, sI_36, gR_35_1, aI_37, sI_37, gR_35_3, gI_40, pI_40, iO_40, gR_40_2, aI_41, sI_41, gR_40_5, e1]
  refine WI_i (fun hs => ?_) (fun hs => ?_)
  · simp (disch := first | assumption | omega) only [↓b_hid, bH_some, ↓hid_W, ↓W_ite, WI_t, WI_f, W_some, I3_a, I3_s, I3_m, I3_n, I3_l, I3_lt, I3_le, I3_e, I3_dv, I3_rm, I3_mx, I3_mn, I3_ab, cI, bI_0, bI_1, rZ_b, up_same, up_row, up_col, xr_some, LQ_r, LQ_l, Int.sub_self, Int.add_zero, Int.zero_add, Int.sub_zero, Int.neg_neg, not_true_eq_false, not_false_eq_true, Int.add_sub_cancel]
    unfold f_X2_take_22
    refine lp_W (fun m s => ∃ (k : Int) (z' : Nat → Int → Int), s = (40, 35, I3 i, I3 k, M p z' l) ∧ 0 ≤ k ∧ k ≤ (gl (FS d n gap) i).2 ∧ m = ((gl (FS d n gap) i).2 - k).toNat ∧ z' 40 3 = (gl (FS d n gap) i).2 ∧ (∀ j, 0 ≤ j → j < k → z' 41 j = d ((gl (FS d n gap) i).1 + j)) ∧ (∀ k, k ≠ 40 → k ≠ 41 → z' k = z k) ∧ ∀ j, j ≠ 3 → z' 40 j = z 40 j) (fun m s hs => ?_) ⟨0, _, rfl, by omega, by omega, rfl, by rw [up_same], by intro j h1 h2; omega, fun k h1 h2 => by rw [up_row h1], fun j hj => by rw [up_col hj]⟩
    obtain ⟨k, z', rfl, k0, k1, rfl, a1, a2, a3, a4⟩ := hs
    unfold f_X2_take_22_b
    by_cases hk : k < (gl (FS d n gap) i).2
    · have h' : Fs z' n d gap := by
        obtain ⟨t1, t2, t3⟩ := h
        refine ⟨Tr_congr (a3 38 (by decide) (by decide)) (a3 39 (by decide) (by decide)) t1, ?_, ?_⟩
        · rw [a3 35 (by decide) (by decide)]; exact t2
        · rw [a3 36 (by decide) (by decide), a3 37 (by decide) (by decide)]; exact t3
      have e2 := g_durAt (p := p) (l := l) h' h0 h1 hi k0 hk
      simp (disch := first | assumption | omega) only [↓b_hid, bH_some, ↓hid_W, ↓W_ite, WI_t, WI_f, W_some, I3_a, I3_s, I3_m, I3_n, I3_l, I3_lt, I3_le, I3_e, I3_dv, I3_rm, I3_mx, I3_mn, I3_ab, cI, bI_0, bI_1, rZ_b, up_same, up_row, up_col, xr_some, LQ_r, LQ_l, Int.sub_self, Int.add_zero, Int.zero_add, Int.sub_zero, Int.neg_neg, not_true_eq_false, not_false_eq_true, Int.add_sub_cancel, gI_40, pI_40, iO_40, gR_40_2, aI_41, sI_41, gR_40_5, gI_35, pI_35, iO_35, gR_35_0, aI_36, sI_36, gR_35_1, aI_37, sI_37, gR_35_3, a1, e2, WI_pos, WI_neg]
      refine ⟨_, ?_, k + 1, _, rfl, by omega, by omega, rfl, ?_, ?_, ?_, ?_⟩
      · omega
      · rw [up_row (by decide)]; exact a1
      · intro j h2 h3
        by_cases hj : j = k
        · subst hj; rw [up_same]
        · rw [up_col hj]; exact a2 j h2 (by omega)
      · intro c h2 h3; rw [up_row h3]; exact a3 c h2 h3
      · intro j hj; rw [up_row (by decide)]; exact a4 j hj
    · have : k = (gl (FS d n gap) i).2 := by omega
      subst this
      simp (disch := first | assumption | omega) only [↓b_hid, bH_some, ↓hid_W, ↓W_ite, WI_t, WI_f, W_some, I3_a, I3_s, I3_m, I3_n, I3_l, I3_lt, I3_le, I3_e, I3_dv, I3_rm, I3_mx, I3_mn, I3_ab, cI, bI_0, bI_1, rZ_b, up_same, up_row, up_col, xr_some, LQ_r, LQ_l, Int.sub_self, Int.add_zero, Int.zero_add, Int.sub_zero, Int.neg_neg, not_true_eq_false, not_false_eq_true, Int.add_sub_cancel, gI_40, pI_40, iO_40, gR_40_2, aI_41, sI_41, gR_40_5, a1, f_X2_take_48, WI_pos, WI_neg]
      exact ⟨z', by rw [bI_t hs], a1, fun _ => a2, a3, a4⟩
  · simp (disch := first | assumption | omega) only [↓b_hid, bH_some, ↓hid_W, ↓W_ite, WI_t, WI_f, W_some, I3_a, I3_s, I3_m, I3_n, I3_l, I3_lt, I3_le, I3_e, I3_dv, I3_rm, I3_mx, I3_mn, I3_ab, cI, bI_0, bI_1, rZ_b, up_same, up_row, up_col, xr_some, LQ_r, LQ_l, Int.sub_self, Int.add_zero, Int.zero_add, Int.sub_zero, Int.neg_neg, not_true_eq_false, not_false_eq_true, Int.add_sub_cancel]
    exact ⟨_, by rw [bI_f hs], by rw [up_same], fun h => absurd h hs, fun k h1 h2 => by rw [up_row h1], fun j hj => by rw [up_col hj]⟩
theorem TbP_congr {z z' : Nat → Int → Int} {t n : Nat} {F : Nat → Int → Int} (h : ∀ k, t ≤ k → k < t + 10 → z' k = z k) (hT : TbP z t n F) : TbP z' t n F := by
  obtain ⟨h1, h2, h3⟩ := hT
  refine ⟨by rw [h t (by omega) (by omega)]; exact h1, h2, fun q hq => ?_⟩
  rw [h (t + 4 + q) (by omega) (by omega)]; exact h3 q hq
theorem w_decode {t i nP : Nat} {n gap tol : Int} {d : Int → Int} {F : Nat → Int → Int} (ht : isTb t) (hT : TbP z t nP F) (h : Fs z n d gap) (h0 : 0 ≤ n) (h1 : n ≤ 200) (hi : i < (FS d n gap).length) (htol : 0 ≤ tol ∧ tol ≤ 40) (hd : ∀ k, 0 ≤ k → k < n → 0 ≤ d k ∧ d k ≤ 20000000) : WP (f_X2_decode 40 t 35 (I3 i) (I3 tol) (M p z l)) (fun μ => ∃ z' l', μ = M p z' l' ∧ z' 40 0 = (dec F nP (fun k => d ((gl (FS d n gap) i).1 + k)) (gl (FS d n gap) i).2 tol).1 ∧ z' 40 1 = (dec F nP (fun k => d ((gl (FS d n gap) i).1 + k)) (gl (FS d n gap) i).2 tol).2 ∧ (∀ k, k ≠ 40 → k ≠ 41 → z' k = z k) ∧ ∀ k, k ≠ 42 → l' k = l k) := by
  obtain ⟨g1, g2, g3, g4, g5⟩ := FS_g h0 hi
  have htr := isTb_r ht
  unfold f_X2_decode
  simp (disch := first | assumption | omega) only [↓b_hid, bH_some, ↓hid_W, ↓W_ite, WI_t, WI_f, W_some, I3_a, I3_s, I3_m, I3_n, I3_l, I3_lt, I3_le, I3_e, I3_dv, I3_rm, I3_mx, I3_mn, I3_ab, cI, bI_0, bI_1, rZ_b, up_same, up_row, up_col, xr_some, LQ_r, LQ_l, Int.sub_self, Int.add_zero, Int.zero_add, Int.sub_zero, Int.neg_neg, not_true_eq_false, not_false_eq_true, Int.add_sub_cancel, gI_40, pI_40, iO_40, gR_40_2, aI_41, sI_41, gR_40_5]
  generalize hz1 : up (up (up z 40 4 tol) 40 0 (-9)) 40 1 (-9) = z1
  have hz1r : ∀ k, k ≠ 40 → z1 k = z k := by intro k hk; subst hz1; rw [up_row hk, up_row hk, up_row hk]
  have hz10 : z1 40 0 = -9 ∧ z1 40 1 = -9 ∧ z1 40 4 = tol := by
    subst hz1
    exact ⟨by rw [up_col (by decide), up_same], by rw [up_same], by rw [up_col (by decide), up_col (by decide), up_same]⟩
  have hF1 : Fs z1 n d gap := by
    obtain ⟨t1, t2, t3⟩ := h
    refine ⟨Tr_congr (hz1r 38 (by decide)) (hz1r 39 (by decide)) t1, ?_, ?_⟩
    · rw [hz1r 35 (by decide)]; exact t2
    · rw [hz1r 36 (by decide), hz1r 37 (by decide)]; exact t3
  refine W_bH (W_imp (w_take hF1 h0 h1 hi) ?_)
  rintro _ ⟨z2, rfl, a1, a2, a3, a4⟩
  have hT2 : TbP z2 t nP F := TbP_congr (fun k h1 h2 => by rw [a3 k (by omega) (by omega), hz1r k (by omega)]) hT
  have h6 : ∀ q, q < nP → 1 ≤ F q 6 ∧ F q 6 ≤ 16 := fun q hq => (hT.2.2 q hq).2.2.2.2.2.2.1
  simp (disch := first | assumption | omega) only [↓b_hid, bH_some, ↓hid_W, ↓W_ite, WI_t, WI_f, W_some, I3_a, I3_s, I3_m, I3_n, I3_l, I3_lt, I3_le, I3_e, I3_dv, I3_rm, I3_mx, I3_mn, I3_ab, cI, bI_0, bI_1, rZ_b, up_same, up_row, up_col, xr_some, LQ_r, LQ_l, Int.sub_self, Int.add_zero, Int.zero_add, Int.sub_zero, Int.neg_neg, not_true_eq_false, not_false_eq_true, Int.add_sub_cancel]
  refine WI_i (fun hs => ?_) (fun hs => ?_)
  · simp (disch := first | assumption | omega) only [↓b_hid, bH_some, ↓hid_W, ↓W_ite, WI_t, WI_f, W_some, I3_a, I3_s, I3_m, I3_n, I3_l, I3_lt, I3_le, I3_e, I3_dv, I3_rm, I3_mx, I3_mn, I3_ab, cI, bI_0, bI_1, rZ_b, up_same, up_row, up_col, xr_some, LQ_r, LQ_l, Int.sub_self, Int.add_zero, Int.zero_add, Int.sub_zero, Int.neg_neg, not_true_eq_false, not_false_eq_true, Int.add_sub_cancel]
    rw [dec_big h6 (by omega)]
    exact ⟨z2, l, rfl, by rw [a4 0 (by decide)]; exact hz10.1, by rw [a4 1 (by decide)]; exact hz10.2.1, fun k h1 h2 => by rw [a3 k h1 h2, hz1r k h1], fun _ _ => rfl⟩
  have hs : (gl (FS d n gap) i).2 ≤ 35 := Classical.byContradiction hs
  generalize he : (fun k => d ((gl (FS d n gap) i).1 + k)) = e at *
  generalize hmm : (gl (FS d n gap) i).2 = m at *
  generalize hss : (gl (FS d n gap) i).1 = s at *
  have hek : ∀ k, e k = d (s + k) := by intro k; rw [← he]
  have hE : Eg e m tol := ⟨by omega, htol, fun k k0 k1 => by rw [hek]; exact hd _ (by omega) (by omega)⟩
  have hD2 : De z2 e m tol := ⟨a1, by rw [a4 4 (by decide)]; exact hz10.2.2, fun k k0 k1 => by rw [hek]; exact a2 hs k k0 k1⟩
  simp (disch := first | assumption | omega) only [↓b_hid, bH_some, ↓hid_W, ↓W_ite, WI_t, WI_f, W_some, I3_a, I3_s, I3_m, I3_n, I3_l, I3_lt, I3_le, I3_e, I3_dv, I3_rm, I3_mx, I3_mn, I3_ab, cI, bI_0, bI_1, rZ_b, up_same, up_row, up_col, xr_some, LQ_r, LQ_l, Int.sub_self, Int.add_zero, Int.zero_add, Int.sub_zero, Int.neg_neg, not_true_eq_false, not_false_eq_true, Int.add_sub_cancel]
  unfold f_X2_decode_31
  refine lp_W (fun m' s => ∃ (q : Nat) (z' l' : Nat → Int → Int), s = (40, t, I3 q, M p z' l') ∧ q + m' = nP ∧ dec1 F e m tol nP 0 = dec1 F e m tol m' q ∧ z' 40 0 = -9 ∧ z' 40 1 = -9 ∧ De z' e m tol ∧ (∀ k, k ≠ 40 → z' k = z2 k) ∧ ∀ k, k ≠ 42 → l' k = l k) (fun m' s hs' => ?_) ⟨0, z2, l, rfl, by omega, rfl, by rw [a4 0 (by decide)]; exact hz10.1, by rw [a4 1 (by decide)]; exact hz10.2.1, hD2, fun _ _ => rfl, fun _ _ => rfl⟩
  obtain ⟨q, z', l', rfl, hqm, hdq, b0, b1, hD', hz', hl'⟩ := hs'
  have hT' : TbP z' t nP F := TbP_congr (fun k h1 h2 => hz' k (by omega)) hT2
  have t1 := hT'.1
  have hnP := hT'.2.1
  unfold f_X2_decode_31_b
  by_cases hq : q < nP
  · obtain ⟨m', rfl⟩ : ∃ k, m' = k + 1 := ⟨m' - 1, by omega⟩
    obtain ⟨hf, hPV⟩ := hT'.2.2 q hq
    have hPV0 := hPV.1
    have hP : isP (t + 4 + q) := isP_T ht (by omega)
    have e4 : (q : Int).toNat = q := Int.toNat_natCast q
    have hx := xcode_r e m tol (h6 q hq)
    have hdq : dec1 F e m tol nP 0 = if xcode (F q) e m tol = -9 then dec1 F e m tol m' (q + 1) else (q, xcode (F q) e m tol) := hdq
    have fin : ∀ l2 : Nat → Int → Int, (∀ k, k ≠ 42 → l2 k = l k) → WP (f_X2_decode_73 40 t (I3 q) (I3 (xcode (F q) e m tol)) 40 (M p z' l2)) (LQ (fun μ => ∃ z' l', μ = M p z' l' ∧ z' 40 0 = (dec F nP e m tol).1 ∧ z' 40 1 = (dec F nP e m tol).2 ∧ (∀ k, k ≠ 40 → k ≠ 41 → z' k = z k) ∧ ∀ k, k ≠ 42 → l' k = l k) (fun m' s => ∃ (q : Nat) (z' l' : Nat → Int → Int), s = (40, t, I3 q, M p z' l') ∧ q + m' = nP ∧ dec1 F e m tol nP 0 = dec1 F e m tol m' q ∧ z' 40 0 = -9 ∧ z' 40 1 = -9 ∧ De z' e m tol ∧ (∀ k, k ≠ 40 → z' k = z2 k) ∧ ∀ k, k ≠ 42 → l' k = l k) (m' + 1)) := by
      intro l2 hl2
      unfold f_X2_decode_73
      simp (disch := first | assumption | omega) only [↓b_hid, bH_some, ↓hid_W, ↓W_ite, WI_t, WI_f, W_some, I3_a, I3_s, I3_m, I3_n, I3_l, I3_lt, I3_le, I3_e, I3_dv, I3_rm, I3_mx, I3_mn, I3_ab, cI, bI_0, bI_1, rZ_b, up_same, up_row, up_col, xr_some, LQ_r, LQ_l, Int.sub_self, Int.add_zero, Int.zero_add, Int.sub_zero, Int.neg_neg, not_true_eq_false, not_false_eq_true, Int.add_sub_cancel, gI_40, pI_40, iO_40, gR_40_2, aI_41, sI_41, gR_40_5]
      refine WI_i (fun hx9 => ?_) (fun hx9 => ?_)
      · simp (disch := first | assumption | omega) only [↓b_hid, bH_some, ↓hid_W, ↓W_ite, WI_t, WI_f, W_some, I3_a, I3_s, I3_m, I3_n, I3_l, I3_lt, I3_le, I3_e, I3_dv, I3_rm, I3_mx, I3_mn, I3_ab, cI, bI_0, bI_1, rZ_b, up_same, up_row, up_col, xr_some, LQ_r, LQ_l, Int.sub_self, Int.add_zero, Int.zero_add, Int.sub_zero, Int.neg_neg, not_true_eq_false, not_false_eq_true, Int.add_sub_cancel]
        rw [if_pos hx9] at hdq
        refine ⟨m', by omega, q + 1, _, l2, by rw [Int.natCast_add]; rfl, by omega, hdq, ?_, ?_, ?_, ?_, hl2⟩
        · rw [up_col (by decide)]; exact b0
        · rw [up_same]; exact hx9
        · obtain ⟨c1, c2, c3⟩ := hD'
          exact ⟨by rw [up_col (by decide)]; exact c1, by rw [up_col (by decide)]; exact c2, by rw [up_row (by decide)]; exact c3⟩
        · intro k hk; rw [up_row hk]; exact hz' k hk
      · rw [if_neg hx9] at hdq
        simp (disch := first | assumption | omega) only [↓b_hid, bH_some, ↓hid_W, ↓W_ite, WI_t, WI_f, W_some, I3_a, I3_s, I3_m, I3_n, I3_l, I3_lt, I3_le, I3_e, I3_dv, I3_rm, I3_mx, I3_mn, I3_ab, cI, bI_0, bI_1, rZ_b, up_same, up_row, up_col, xr_some, LQ_r, LQ_l, Int.sub_self, Int.add_zero, Int.zero_add, Int.sub_zero, Int.neg_neg, not_true_eq_false, not_false_eq_true, Int.add_sub_cancel, gI_40, pI_40, iO_40, gR_40_2, aI_41, sI_41, gR_40_5, f_X2_decode_85]
        have hdec : dec F nP e m tol = ((q : Int), xcode (F q) e m tol) := by
          unfold dec; rw [hdq, if_neg (by simp only; omega)]
        rw [hdec]
        refine ⟨_, l2, rfl, by rw [up_same], by rw [up_col (by decide), up_same], fun k h1 h2 => ?_, hl2⟩
        rw [up_row h1, up_row h1, hz' k h1, a3 k h1 h2, hz1r k h1]
    simp (disch := first | assumption | omega) only [↓b_hid, bH_some, ↓hid_W, ↓W_ite, WI_t, WI_f, W_some, I3_a, I3_s, I3_m, I3_n, I3_l, I3_lt, I3_le, I3_e, I3_dv, I3_rm, I3_mx, I3_mn, I3_ab, cI, bI_0, bI_1, rZ_b, up_same, up_row, up_col, xr_some, LQ_r, LQ_l, Int.sub_self, Int.add_zero, Int.zero_add, Int.sub_zero, Int.neg_neg, not_true_eq_false, not_false_eq_true, Int.add_sub_cancel, gI_Tb, pI_Tb, iO_Tb, gR_Tb0, gR_Tb2, gR_Tb3, aR_Tb, aI_Tb2, aI_Tb3, sI_Tb2, sI_Tb3, cpI_Tb2, cpI_Tb3, t1, g_pAt, e4, WI_pos, WI_neg]
    simp (disch := first | assumption | omega) only [↓b_hid, bH_some, ↓hid_W, ↓W_ite, WI_t, WI_f, W_some, I3_a, I3_s, I3_m, I3_n, I3_l, I3_lt, I3_le, I3_e, I3_dv, I3_rm, I3_mx, I3_mn, I3_ab, cI, bI_0, bI_1, rZ_b, up_same, up_row, up_col, xr_some, LQ_r, LQ_l, Int.sub_self, Int.add_zero, Int.zero_add, Int.sub_zero, Int.neg_neg, not_true_eq_false, not_false_eq_true, Int.add_sub_cancel, gI_P, pI_P, iO_P, hf]
    refine WI_i (fun h2 => ?_) (fun h2 => ?_)
    · simp (disch := first | assumption | omega) only [↓b_hid, bH_some, ↓hid_W, ↓W_ite, WI_t, WI_f, W_some, I3_a, I3_s, I3_m, I3_n, I3_l, I3_lt, I3_le, I3_e, I3_dv, I3_rm, I3_mx, I3_mn, I3_ab, cI, bI_0, bI_1, rZ_b, up_same, up_row, up_col, xr_some, LQ_r, LQ_l, Int.sub_self, Int.add_zero, Int.zero_add, Int.sub_zero, Int.neg_neg, not_true_eq_false, not_false_eq_true, Int.add_sub_cancel, gI_40, pI_40, iO_40, gR_40_2, aI_41, sI_41, gR_40_5]
      refine W_bH (W_imp (w_phase hP hf hPV hD' hE) ?_)
      rintro _ ⟨l2, rfl, hl2⟩
      have ex : xcode (F q) e m tol = phcode (F q) e m tol := by unfold xcode; rw [if_pos h2]
      have := fin l2 (fun k hk => (hl2 k hk).trans (hl' k hk))
      rw [ex] at this
      exact this
    · have ex : xcode (F q) e m tol = pcode (F q) e m tol := by unfold xcode; rw [if_neg h2]
      have gp := g_plain (p := p) (l := l') hP hf hPV h2 hD' hE
      simp (disch := first | assumption | omega) only [↓b_hid, bH_some, ↓hid_W, ↓W_ite, WI_t, WI_f, W_some, I3_a, I3_s, I3_m, I3_n, I3_l, I3_lt, I3_le, I3_e, I3_dv, I3_rm, I3_mx, I3_mn, I3_ab, cI, bI_0, bI_1, rZ_b, up_same, up_row, up_col, xr_some, LQ_r, LQ_l, Int.sub_self, Int.add_zero, Int.zero_add, Int.sub_zero, Int.neg_neg, not_true_eq_false, not_false_eq_true, Int.add_sub_cancel, gI_40, pI_40, iO_40, gR_40_2, aI_41, sI_41, gR_40_5, gp]
      have := fin l' hl'
      rw [ex] at this
      exact this
  · have : m' = 0 := by omega
    subst this
    have hd0 : dec1 F e m tol nP 0 = (-9, -9) := hdq
    have gs := g_short (p := p) (l := l') ht hT' hD' hE
    simp (disch := first | assumption | omega) only [↓b_hid, bH_some, ↓hid_W, ↓W_ite, WI_t, WI_f, W_some, I3_a, I3_s, I3_m, I3_n, I3_l, I3_lt, I3_le, I3_e, I3_dv, I3_rm, I3_mx, I3_mn, I3_ab, cI, bI_0, bI_1, rZ_b, up_same, up_row, up_col, xr_some, LQ_r, LQ_l, Int.sub_self, Int.add_zero, Int.zero_add, Int.sub_zero, Int.neg_neg, not_true_eq_false, not_false_eq_true, Int.add_sub_cancel, gI_Tb, pI_Tb, iO_Tb, gR_Tb0, gR_Tb2, gR_Tb3, aR_Tb, aI_Tb2, aI_Tb3, sI_Tb2, sI_Tb3, cpI_Tb2, cpI_Tb3, t1, WI_pos, WI_neg]
    refine W_xr ?_
    unfold f_X2_decode_98
    simp (disch := first | assumption | omega) only [↓b_hid, bH_some, ↓hid_W, ↓W_ite, WI_t, WI_f, W_some, I3_a, I3_s, I3_m, I3_n, I3_l, I3_lt, I3_le, I3_e, I3_dv, I3_rm, I3_mx, I3_mn, I3_ab, cI, bI_0, bI_1, rZ_b, up_same, up_row, up_col, xr_some, LQ_r, LQ_l, Int.sub_self, Int.add_zero, Int.zero_add, Int.sub_zero, Int.neg_neg, not_true_eq_false, not_false_eq_true, Int.add_sub_cancel, gI_40, pI_40, iO_40, gR_40_2, aI_41, sI_41, gR_40_5, gs]
    have hdec : dec F nP e m tol = (dec2 F e m tol nP 0, -9) := by unfold dec; rw [hd0, if_pos rfl]
    rw [hdec]
    refine ⟨_, l', rfl, by rw [up_same], by rw [up_col (by decide)]; exact b1, fun k h1 h2 => ?_, hl'⟩
    rw [up_row h1, hz' k h1, a3 k h1 h2, hz1r k h1]
end
