/-! Collisions: the durations that both sides make; the class's Collision. -/
def dd0 (x : Dn) (m : Int) : Int := if m < x.1 then x.2 m else 0
def Tm (x : Dn) : Nat → Int
  | 0 => 0
  | k + 1 => Tm x k + dd0 x k
/-- the marks of both in their order -/
def mrg (x y : Dn) (o : Int) : Nat → Nat → Nat → List (Int × Int)
  | 0, _, _ => []
  | f + 1, i, j => if (i : Int) < x.1 ∧ (y.1 ≤ j ∨ Tm x i ≤ o + Tm y j) then (Tm x i, Tm x (i + 1)) :: mrg x y o f (i + 2) j
    else if (j : Int) < y.1 then (o + Tm y j, o + Tm y (j + 1)) :: mrg x y o f i (j + 2) else []
/-- the durations, with a mark under way -/
def dr (f t : Int) : List (Int × Int) → List Int
  | [] => [t - f]
  | (a, b) :: r => if a ≤ t then dr f (if t < b then b else t) r else (t - f) :: (a - t) :: dr a b r
def dall : List (Int × Int) → List Int
  | [] => []
  | (a, b) :: r => dr a b r
def colD (x y : Dn) (o : Int) : List Int := dall (mrg x y o 400 0 0)
def lf (D : List Int) : Int → Int := fun i => D.getD i.toNat 0
/-- the durations are good -/
def Gd (x : Dn) : Prop := (0 ≤ x.1 ∧ x.1 ≤ 200) ∧ ∀ i, 0 ≤ i → i < x.1 → 1 ≤ x.2 i ∧ x.2 i ≤ 60000
theorem dd0_r {x : Dn} (h : Gd x) {m : Int} (hm : 0 ≤ m) : 0 ≤ dd0 x m ∧ dd0 x m ≤ 60000 := by
  unfold dd0; split
  · have := h.2 m hm (by assumption); omega
  · omega
theorem Tm_r {x : Dn} (h : Gd x) : ∀ k, 0 ≤ Tm x k ∧ Tm x k ≤ 60000 * k
  | 0 => by simp [Tm]
  | k + 1 => by have h1 := Tm_r h k; have h2 := dd0_r h (m := k) (by omega); rw [Tm]; omega
theorem Tm_lt {x : Dn} (h : Gd x) {i : Nat} (hi : (i : Int) < x.1) : Tm x i < Tm x (i + 1) := by
  have := h.2 i (by omega) hi
  rw [Tm]; unfold dd0; rw [if_pos hi]; omega
theorem lf_app {D : List Int} {v : Int} {i : Int} (h0 : 0 ≤ i) : lf (D ++ [v]) i = if i < D.length then lf D i else if i = D.length then v else 0 := by
  unfold lf
  simp only [List.getD_eq_getElem?_getD]
  by_cases h : i < D.length
  · rw [if_pos h, List.getElem?_append_left (by omega)]
  · rw [if_neg h, List.getElem?_append_right (by omega)]
    by_cases h2 : i = D.length
    · rw [if_pos h2, h2]; simp
    · rw [if_neg h2]
      have : 1 ≤ i.toNat - D.length := by omega
      rw [List.getElem?_eq_none (by simpa using this)]; rfl
/-- what the marks are worth -/
def Mg (L : List (Int × Int)) : Prop := ∀ x ∈ L, 0 ≤ x.1 ∧ x.1 < x.2 ∧ x.2 ≤ 13000000
theorem mrg_g {x y : Dn} {o : Int} (hx : Gd x) (hy : Gd y) (ho : 0 ≤ o ∧ o ≤ 60000) : ∀ f i j, Mg (mrg x y o f i j)
  | 0, _, _ => by intro x hx; simp [mrg] at hx
  | f + 1, i, j => by
    have h1 := mrg_g hx hy ho f (i + 2) j
    have h2 := mrg_g hx hy ho f i (j + 2)
    intro v hv
    rw [mrg] at hv
    split at hv
    · rename_i hc
      rcases List.mem_cons.mp hv with rfl | hv
      · have a := Tm_r hx i
        have b := Tm_r hx (i + 1)
        have c := Tm_lt hx hc.1
        have := hx.1
        simp only; omega
      · exact h1 v hv
    · split at hv
      · rename_i hc
        rcases List.mem_cons.mp hv with rfl | hv
        · have a := Tm_r hy j
          have b := Tm_r hy (j + 1)
          have c := Tm_lt hy hc
          have := hy.1
          simp only; omega
        · exact h2 v hv
      · simp at hv
theorem mrg_len (x y : Dn) (o : Int) : ∀ (f i j : Nat), ((mrg x y o f i j).length : Int) ≤ (if (i : Int) < x.1 then (x.1 - i + 1) / 2 else 0) + (if (j : Int) < y.1 then (y.1 - j + 1) / 2 else 0)
  | 0, i, j => by simp [mrg]; split <;> split <;> omega
  | f + 1, i, j => by
    have h1 := mrg_len x y o f (i + 2) j
    have h2 := mrg_len x y o f i (j + 2)
    rw [mrg]
    split
    · rename_i hc
      rw [if_pos hc.1]
      simp only [List.length_cons]
      split at h1 <;> split at h1 <;> split <;> omega
    · split
      · simp only [List.length_cons]
        split at h2 <;> split at h2 <;> split <;> omega
      · simp; split <;> omega
theorem dr_g : ∀ (L : List (Int × Int)) (f t : Int), Mg L → 0 ≤ f → f < t → t ≤ 13000000 → ∀ v ∈ dr f t L, 1 ≤ v ∧ v ≤ 13000000
  | [], f, t, _, h0, h1, h2, v, hv => by simp [dr] at hv; omega
  | (a, b) :: r, f, t, hL, h0, h1, h2, v, hv => by
    have hab := hL (a, b) (List.mem_cons_self ..)
    have hr : Mg r := fun x hx => hL x (List.mem_cons_of_mem _ hx)
    simp only at hab
    rw [dr] at hv
    split at hv
    · exact dr_g r f _ hr h0 (by split <;> omega) (by split <;> omega) v hv
    · rcases List.mem_cons.mp hv with rfl | hv
      · omega
      · rcases List.mem_cons.mp hv with rfl | hv
        · omega
        · exact dr_g r a b hr hab.1 hab.2.1 hab.2.2 v hv
theorem dall_g {L : List (Int × Int)} (h : Mg L) : ∀ v ∈ dall L, 1 ≤ v ∧ v ≤ 13000000 := by
  cases L with
  | nil => intro v hv; simp [dall] at hv
  | cons x r =>
    have hx := h x (List.mem_cons_self ..)
    exact dr_g r x.1 x.2 (fun y hy => h y (List.mem_cons_of_mem _ hy)) hx.1 hx.2.1 hx.2.2
section
variable {p : Nat → Nat} {z l : Nat → Int → Int}
/-- the two trains are laid, the next marks are at i and j -/
def Cm (z : Nat → Int → Int) (x y : Dn) (o : Int) (i j : Nat) : Prop := Trx z 53 x ∧ Trx z 55 y ∧ z 52 2 = i ∧ z 52 3 = Tm x i ∧ z 52 4 = j ∧ z 52 5 = o + Tm y j ∧ (i ≤ 202 ∧ j ≤ 202)
def Mh (z : Nat → Int → Int) (L : List (Int × Int)) : Prop := (L = [] ∧ z 52 6 = 0) ∨ ∃ a b r, L = (a, b) :: r ∧ z 52 6 = 1 ∧ z 52 7 = a ∧ z 52 8 = b
def FrC (z z' : Nat → Int → Int) : Prop := (∀ k, k ≠ 52 → z' k = z k) ∧ z' 52 9 = z 52 9
theorem tat_dd {t : Nat} {x : Dn} {i : Int} (h : Trx z t x) (hi : 0 ≤ i) : tat z t i = dd0 x i := by
  unfold dd0
  by_cases hx : i < x.1
  · rw [if_pos hx, tat_in hi (by rw [h.1]; exact hx)]; exact h.2 i hi hx
  · rw [if_neg hx, tat_out (by rw [h.1]; omega)]
/-- the list that is left, behind the mark at hand -/
def Lr (x y : Dn) (o : Int) (i j : Nat) : List (Int × Int) := mrg x y o 400 i j
theorem mrg_fuel (x y : Dn) (o : Int) (hx : x.1 ≤ 200) (hy : y.1 ≤ 200) : ∀ (f g i j : Nat), (if (i : Int) < x.1 then (x.1 - i + 1) / 2 else 0) + (if (j : Int) < y.1 then (y.1 - j + 1) / 2 else 0) ≤ f → f ≤ g → mrg x y o f i j = mrg x y o g i j
  | 0, g, i, j, h, _ => by
    have h1 : ¬(i : Int) < x.1 := by intro hi; rw [if_pos hi] at h; split at h <;> omega
    have h2 : ¬(j : Int) < y.1 := by intro hi; rw [if_pos hi] at h; split at h <;> omega
    cases g with
    | zero => rfl
    | succ g => rw [mrg, mrg, if_neg (fun h => h1 h.1), if_neg h2]
  | f + 1, g, i, j, h, hg => by
    obtain ⟨g, rfl⟩ : ∃ g', g = g' + 1 := ⟨g - 1, by omega⟩
    rw [mrg, mrg]
    by_cases hc : (i : Int) < x.1 ∧ (y.1 ≤ j ∨ Tm x i ≤ o + Tm y j)
    · rw [if_pos hc, if_pos hc, mrg_fuel x y o hx hy f g (i + 2) j ?_ (by omega)]
      rw [if_pos hc.1] at h
      split <;> split <;> split at h <;> omega
    · rw [if_neg hc, if_neg hc]
      by_cases hj : (j : Int) < y.1
      · rw [if_pos hj, if_pos hj, mrg_fuel x y o hx hy f g i (j + 2) ?_ (by omega)]
        rw [if_pos hj] at h
        split <;> split <;> split at h <;> omega
      · rw [if_neg hj, if_neg hj]
theorem Lr_s {x y : Dn} {o : Int} (hx : x.1 ≤ 200) (hy : y.1 ≤ 200) (i j : Nat) : Lr x y o i j = if (i : Int) < x.1 ∧ (y.1 ≤ j ∨ Tm x i ≤ o + Tm y j) then (Tm x i, Tm x (i + 1)) :: Lr x y o (i + 2) j else if (j : Int) < y.1 then (o + Tm y j, o + Tm y (j + 1)) :: Lr x y o i (j + 2) else [] := by
  unfold Lr
  have e : mrg x y o 400 i j = mrg x y o 401 i j := mrg_fuel x y o hx hy 400 401 i j (by split <;> split <;> omega) (by omega)
  rw [e, mrg]
set_option maxHeartbeats 4000000 in
theorem w_takeMark {x y : Dn} {o : Int} {i j : Nat} (hx : Gd x) (hy : Gd y) (ho : 0 ≤ o ∧ o ≤ 60000) (h : Cm z x y o i j) : WP (f_X1_takeMark 52 (M p z l)) (fun μ => ∃ z' i' j', μ = M p z' l ∧ FrC z z' ∧ Cm z' x y o i' j' ∧ Mh z' (Lr x y o i j) ∧ ∀ q r, Lr x y o i j = q :: r → Lr x y o i' j' = r) := by
  obtain ⟨x1, y1, e2, e3, e4, e5, hi, hj⟩ := h
  have a1 := Tm_r hx i
  have a2 := Tm_r hx (i + 1)
  have a3 := Tm_r hx (i + 2)
  have b1 := Tm_r hy j
  have b2 := Tm_r hy (j + 1)
  have b3 := Tm_r hy (j + 2)
  have hx1 := hx.1
  have hy1 := hy.1
  have h53 := isT_53
  have h55 := isT_55
  have x11 : z 53 1 = x.1 := x1.1
  have y11 : z 55 1 = y.1 := y1.1
  have hL := Lr_s (x := x) (y := y) (o := o) hx1.2 hy1.2 i j
  -- the first train's mark
  have first : ((i : Int) < x.1 ∧ (y.1 ≤ j ∨ Tm x i ≤ o + Tm y j)) → WP (f_X1_takeMark_76 52 (M p (up z 52 6 1) l)) (fun μ => ∃ z' i' j', μ = M p z' l ∧ FrC z z' ∧ Cm z' x y o i' j' ∧ Mh z' (Lr x y o i j) ∧ ∀ q r, Lr x y o i j = q :: r → Lr x y o i' j' = r) := by
    intro hc
    rw [if_pos hc] at hL
    rw [hL]
    have t1 : ∀ z', Trx z' 53 x → f_X10_at 53 (I3 i) (M p z' l) = some (I3 (dd0 x i), M p z' l) := fun z' h' => by
      rw [g_at h53 (by rw [h'.1]; omega) (by rw [h'.1]; omega) (by omega) (by omega), tat_dd h' (by omega)]
    have t2 : ∀ z', Trx z' 53 x → f_X10_at 53 (I3 ((i : Int) + 1)) (M p z' l) = some (I3 (dd0 x ((i : Int) + 1)), M p z' l) := fun z' h' => by
      rw [g_at h53 (by rw [h'.1]; omega) (by rw [h'.1]; omega) (by omega) (by omega), tat_dd h' (by omega)]
    have hk : ∀ (z' : Nat → Int → Int), (∀ k, k ≠ 52 → z' k = z k) → Trx z' 53 x := fun z' hz => Tr_congr (hz 53 (by decide)) (hz 54 (by decide)) x1
    unfold f_X1_takeMark_76
    have q1 := t1 (up (up z 52 6 1) 52 7 (Tm x i)) (hk _ (fun k hk => by rw [up_row hk, up_row hk]))
    have q2 := t2 (up (up (up z 52 6 1) 52 7 (Tm x i)) 52 8 (Tm x i + dd0 x i)) (hk _ (fun k hk => by rw [up_row hk, up_row hk, up_row hk]))
    simp (disch := first | assumption | omega) only [↓b_hid, bH_some, ↓hid_W, W_some, I3_a, I3_s, I3_m, I3_n, I3_l, I3_lt, I3_le, I3_e, I3_dv, I3_rm, I3_mx, I3_mn, I3_ab, cI, bI_0, bI_1, rZ_b, up_same, up_row, up_col, xr_some, LQ_r, LQ_l, Int.sub_self, Int.add_zero, Int.zero_add, Int.sub_zero, Int.neg_neg, not_true_eq_false, not_false_eq_true, Int.add_sub_cancel, ↓ite_iH, iH_t, iH_f, bH_iH, ↓bH_bind, xr_iH, ↓xr_bind, W_iH, WI_t, WI_f, gI_52, pI_52, iO_52, gR_52_0, gR_52_1, pZ_52, e3, e2, iO_T, q1, q2]
    have s1 : Tm x i + dd0 x i = Tm x (i + 1) := by rw [Tm]
    have s2 : Tm x i + dd0 x i + dd0 x ((i : Int) + 1) = Tm x (i + 2) := by rw [Tm, Tm]; rfl
    refine ⟨_, i + 2, j, rfl, ⟨fun k hk => ?_, ?_⟩, ⟨?_, ?_, ?_, ?_, ?_, ?_, by omega, hj⟩, Or.inr ⟨_, _, _, rfl, ?_, ?_, ?_⟩, ?_⟩
    · simp (disch := omega) only [up_row]
    · simp (disch := omega) only [up_col]
    · exact hk _ (fun k hk => by simp (disch := omega) only [up_row])
    · exact Tr_congr (by simp (disch := omega) only [up_row]) (by simp (disch := omega) only [up_row]) y1
    · rw [up_same]; omega
    · rw [up_col (by decide), up_same, s2]
    · simp (disch := omega) only [up_col]; exact e4
    · simp (disch := omega) only [up_col]; exact e5
    · simp (disch := omega) only [up_col, up_same]
    · simp (disch := omega) only [up_col, up_same]
    · simp (disch := omega) only [up_col, up_same]; exact s1
    · intro q r hq; exact (List.cons.inj hq).2
  have second : ¬((i : Int) < x.1 ∧ (y.1 ≤ j ∨ Tm x i ≤ o + Tm y j)) → (j : Int) < y.1 → WP (f_X1_takeMark_139 52 (I3 1) (M p (up z 52 6 1) l)) (fun μ => ∃ z' i' j', μ = M p z' l ∧ FrC z z' ∧ Cm z' x y o i' j' ∧ Mh z' (Lr x y o i j) ∧ ∀ q r, Lr x y o i j = q :: r → Lr x y o i' j' = r) := by
    intro hc hc2
    rw [if_neg hc, if_pos hc2] at hL
    rw [hL]
    have t1 : ∀ z', Trx z' 55 y → f_X10_at 55 (I3 j) (M p z' l) = some (I3 (dd0 y j), M p z' l) := fun z' h' => by
      rw [g_at h55 (by rw [h'.1]; omega) (by rw [h'.1]; omega) (by omega) (by omega), tat_dd h' (by omega)]
    have t2 : ∀ z', Trx z' 55 y → f_X10_at 55 (I3 ((j : Int) + 1)) (M p z' l) = some (I3 (dd0 y ((j : Int) + 1)), M p z' l) := fun z' h' => by
      rw [g_at h55 (by rw [h'.1]; omega) (by rw [h'.1]; omega) (by omega) (by omega), tat_dd h' (by omega)]
    have hk : ∀ (z' : Nat → Int → Int), (∀ k, k ≠ 52 → z' k = z k) → Trx z' 55 y := fun z' hz => Tr_congr (hz 55 (by decide)) (hz 56 (by decide)) y1
    unfold f_X1_takeMark_139
    have q1 := t1 (up (up z 52 6 1) 52 7 (o + Tm y j)) (hk _ (fun k hk => by rw [up_row hk, up_row hk]))
    have q2 := t2 (up (up (up z 52 6 1) 52 7 (o + Tm y j)) 52 8 (o + Tm y j + dd0 y j)) (hk _ (fun k hk => by rw [up_row hk, up_row hk, up_row hk]))
    simp (disch := first | assumption | omega) only [↓b_hid, bH_some, ↓hid_W, W_some, I3_a, I3_s, I3_m, I3_n, I3_l, I3_lt, I3_le, I3_e, I3_dv, I3_rm, I3_mx, I3_mn, I3_ab, cI, bI_0, bI_1, rZ_b, up_same, up_row, up_col, xr_some, LQ_r, LQ_l, Int.sub_self, Int.add_zero, Int.zero_add, Int.sub_zero, Int.neg_neg, not_true_eq_false, not_false_eq_true, Int.add_sub_cancel, ↓ite_iH, iH_t, iH_f, bH_iH, ↓bH_bind, xr_iH, ↓xr_bind, W_iH, WI_t, WI_f, gI_52, pI_52, iO_52, gR_52_0, gR_52_1, pZ_52, e4, e5, iO_T, q1, q2, iH_pos, iH_neg, WI_pos, WI_neg]
    have s1 : o + Tm y j + dd0 y j = o + Tm y (j + 1) := by rw [Tm]; omega
    have s2 : o + Tm y j + dd0 y j + dd0 y ((j : Int) + 1) = o + Tm y (j + 2) := by
      have : Tm y (j + 2) = Tm y j + dd0 y j + dd0 y ((j : Int) + 1) := by rw [Tm, Tm]; rfl
      omega
    refine ⟨_, i, j + 2, rfl, ⟨fun k hk => ?_, ?_⟩, ⟨?_, ?_, ?_, ?_, ?_, ?_, hi, by omega⟩, Or.inr ⟨_, _, _, rfl, ?_, ?_, ?_⟩, ?_⟩
    · simp (disch := omega) only [up_row]
    · simp (disch := omega) only [up_col]
    · exact Tr_congr (by simp (disch := omega) only [up_row]) (by simp (disch := omega) only [up_row]) x1
    · exact hk _ (fun k hk => by simp (disch := omega) only [up_row])
    · simp (disch := omega) only [up_col]; exact e2
    · simp (disch := omega) only [up_col]; exact e3
    · rw [up_same]; omega
    · rw [up_col (by decide), up_same, s2]
    · simp (disch := omega) only [up_col, up_same]
    · simp (disch := omega) only [up_col, up_same]
    · simp (disch := omega) only [up_col, up_same]; exact s1
    · intro q r hq; exact (List.cons.inj hq).2
  unfold f_X1_takeMark
  by_cases h1 : (i : Int) < x.1
  · by_cases h2 : (j : Int) < y.1
    · by_cases h3 : Tm x i ≤ o + Tm y j
      · have := first ⟨h1, Or.inr h3⟩
        simp (disch := first | assumption | omega) only [↓b_hid, bH_some, ↓hid_W, W_some, I3_a, I3_s, I3_m, I3_n, I3_l, I3_lt, I3_le, I3_e, I3_dv, I3_rm, I3_mx, I3_mn, I3_ab, cI, bI_0, bI_1, rZ_b, up_same, up_row, up_col, xr_some, LQ_r, LQ_l, Int.sub_self, Int.add_zero, Int.zero_add, Int.sub_zero, Int.neg_neg, not_true_eq_false, not_false_eq_true, Int.add_sub_cancel, ↓ite_iH, iH_t, iH_f, bH_iH, ↓bH_bind, xr_iH, ↓xr_bind, W_iH, WI_t, WI_f, gI_52, pI_52, iO_52, gR_52_0, gR_52_1, pZ_52, gI_T, e2, x11, f_X1_takeMark_19, e4, y11, f_X1_takeMark_39, f_X1_takeMark_49, f_X1_takeMark_54, e3, e5, iH_pos, iH_neg, WI_pos, WI_neg]
        exact this
      · have := second (by omega) h2
        simp (disch := first | assumption | omega) only [↓b_hid, bH_some, ↓hid_W, W_some, I3_a, I3_s, I3_m, I3_n, I3_l, I3_lt, I3_le, I3_e, I3_dv, I3_rm, I3_mx, I3_mn, I3_ab, cI, bI_0, bI_1, rZ_b, up_same, up_row, up_col, xr_some, LQ_r, LQ_l, Int.sub_self, Int.add_zero, Int.zero_add, Int.sub_zero, Int.neg_neg, not_true_eq_false, not_false_eq_true, Int.add_sub_cancel, ↓ite_iH, iH_t, iH_f, bH_iH, ↓bH_bind, xr_iH, ↓xr_bind, W_iH, WI_t, WI_f, gI_52, pI_52, iO_52, gR_52_0, gR_52_1, pZ_52, gI_T, e2, x11, f_X1_takeMark_19, e4, y11, f_X1_takeMark_39, f_X1_takeMark_49, f_X1_takeMark_54, e3, e5, iH_pos, iH_neg, WI_pos, WI_neg]
        exact this
    · have := first ⟨h1, Or.inl (by omega)⟩
      simp (disch := first | assumption | omega) only [↓b_hid, bH_some, ↓hid_W, W_some, I3_a, I3_s, I3_m, I3_n, I3_l, I3_lt, I3_le, I3_e, I3_dv, I3_rm, I3_mx, I3_mn, I3_ab, cI, bI_0, bI_1, rZ_b, up_same, up_row, up_col, xr_some, LQ_r, LQ_l, Int.sub_self, Int.add_zero, Int.zero_add, Int.sub_zero, Int.neg_neg, not_true_eq_false, not_false_eq_true, Int.add_sub_cancel, ↓ite_iH, iH_t, iH_f, bH_iH, ↓bH_bind, xr_iH, ↓xr_bind, W_iH, WI_t, WI_f, gI_52, pI_52, iO_52, gR_52_0, gR_52_1, pZ_52, gI_T, e2, x11, f_X1_takeMark_19, e4, y11, f_X1_takeMark_39, f_X1_takeMark_49, f_X1_takeMark_54, e3, e5, iH_pos, iH_neg, WI_pos, WI_neg]
      exact this
  · by_cases h2 : (j : Int) < y.1
    · have := second (by omega) h2
      simp (disch := first | assumption | omega) only [↓b_hid, bH_some, ↓hid_W, W_some, I3_a, I3_s, I3_m, I3_n, I3_l, I3_lt, I3_le, I3_e, I3_dv, I3_rm, I3_mx, I3_mn, I3_ab, cI, bI_0, bI_1, rZ_b, up_same, up_row, up_col, xr_some, LQ_r, LQ_l, Int.sub_self, Int.add_zero, Int.zero_add, Int.sub_zero, Int.neg_neg, not_true_eq_false, not_false_eq_true, Int.add_sub_cancel, ↓ite_iH, iH_t, iH_f, bH_iH, ↓bH_bind, xr_iH, ↓xr_bind, W_iH, WI_t, WI_f, gI_52, pI_52, iO_52, gR_52_0, gR_52_1, pZ_52, gI_T, e2, x11, f_X1_takeMark_19, e4, y11, f_X1_takeMark_39, f_X1_takeMark_49, f_X1_takeMark_54, e3, e5, iH_pos, iH_neg, WI_pos, WI_neg]
      exact this
    · rw [if_neg (by omega), if_neg h2] at hL
      rw [hL]
      simp (disch := first | assumption | omega) only [↓b_hid, bH_some, ↓hid_W, W_some, I3_a, I3_s, I3_m, I3_n, I3_l, I3_lt, I3_le, I3_e, I3_dv, I3_rm, I3_mx, I3_mn, I3_ab, cI, bI_0, bI_1, rZ_b, up_same, up_row, up_col, xr_some, LQ_r, LQ_l, Int.sub_self, Int.add_zero, Int.zero_add, Int.sub_zero, Int.neg_neg, not_true_eq_false, not_false_eq_true, Int.add_sub_cancel, ↓ite_iH, iH_t, iH_f, bH_iH, ↓bH_bind, xr_iH, ↓xr_bind, W_iH, WI_t, WI_f, gI_52, pI_52, iO_52, gR_52_0, gR_52_1, pZ_52, gI_T, e2, x11, f_X1_takeMark_19, e4, y11, f_X1_takeMark_39, f_X1_takeMark_49, f_X1_takeMark_54, f_X1_takeMark_139, iH_pos, iH_neg, WI_pos, WI_neg]
      refine ⟨_, i, j, rfl, ⟨fun k hk => by rw [up_row hk], by rw [up_col (by decide)]⟩, ⟨?_, ?_, ?_, ?_, ?_, ?_, hi, hj⟩, Or.inl ⟨rfl, by rw [up_same]⟩, fun q r hq => by cases hq⟩
      · exact Tr_congr (up_row (by decide) _ _ _) (up_row (by decide) _ _ _) x1
      · exact Tr_congr (up_row (by decide) _ _ _) (up_row (by decide) _ _ _) y1
      · rw [up_col (by decide)]; exact e2
      · rw [up_col (by decide)]; exact e3
      · rw [up_col (by decide)]; exact e4
      · rw [up_col (by decide)]; exact e5
end
