/-! The class's Collision: its durations one by one; what is written; what is compared. -/
section
variable {p : Nat → Nat} {z l : Nat → Int → Int}
/-- the durations that are to come -/
def Ns (z : Nat → Int → Int) (x y : Dn) (o : Int) (D : List Int) : Prop := ∃ (i j : Nat) (L : List (Int × Int)), Cm z x y o i j ∧ Mh z L ∧ (∀ q r, L = q :: r → Lr x y o i j = r) ∧ Mg L ∧ L.length ≤ 200 ∧ (0 ≤ z 52 9 ∧ z 52 9 ≤ 13000000) ∧ D = (if 0 < z 52 9 then [z 52 9] else []) ++ dall L
theorem Cm_congr {z z' : Nat → Int → Int} {x y : Dn} {o : Int} {i j : Nat} (h : ∀ k, 53 ≤ k → k < 57 → z' k = z k) (h' : ∀ c : Int, c < 6 → z' 52 c = z 52 c) (hC : Cm z x y o i j) : Cm z' x y o i j := by
  obtain ⟨a, b, c1, c2, c3, c4, c5⟩ := hC
  exact ⟨Tr_congr (h 53 (by decide) (by decide)) (h 54 (by decide) (by decide)) a, Tr_congr (h 55 (by decide) (by decide)) (h 56 (by decide) (by decide)) b, by rw [h' 2 (by decide)]; exact c1, by rw [h' 3 (by decide)]; exact c2, by rw [h' 4 (by decide)]; exact c3, by rw [h' 5 (by decide)]; exact c4, c5⟩
theorem Mh_congr {z z' : Nat → Int → Int} {L : List (Int × Int)} (h' : ∀ c : Int, c < 9 → z' 52 c = z 52 c) (hM : Mh z L) : Mh z' L := by
  unfold Mh; rw [h' 6 (by decide), h' 7 (by decide), h' 8 (by decide)]; exact hM
theorem Ns_congr {z z' : Nat → Int → Int} {x y : Dn} {o : Int} {D : List Int} (h : ∀ k, 52 ≤ k → k < 57 → z' k = z k) (hN : Ns z x y o D) : Ns z' x y o D := by
  obtain ⟨i, j, L, a, b, c, d, e, f, g⟩ := hN
  have h52 := h 52 (by decide) (by decide)
  exact ⟨i, j, L, Cm_congr (fun k k0 k1 => h k (by omega) k1) (fun c _ => by rw [h52]) a, Mh_congr (fun c _ => by rw [h52]) b, c, d, e, by rw [h52]; exact f, by rw [h52]; exact g⟩
theorem Ns_pos {x y : Dn} {o : Int} {D : List Int} (hN : Ns z x y o D) : ∀ v ∈ D, 1 ≤ v ∧ v ≤ 13000000 := by
  obtain ⟨i, j, L, a, b, c, d, e, f, rfl⟩ := hN
  intro v hv
  rcases List.mem_append.mp hv with hv | hv
  · split at hv
    · simp at hv; omega
    · simp at hv
  · exact dall_g d v hv
theorem Lr_cons_g {x y : Dn} {o : Int} (hx : Gd x) (hy : Gd y) (ho : 0 ≤ o ∧ o ≤ 60000) (i j : Nat) : Mg (Lr x y o i j) := mrg_g hx hy ho 400 i j
set_option maxHeartbeats 4000000 in
theorem w_next {x y : Dn} {o : Int} {D : List Int} (hx : Gd x) (hy : Gd y) (ho : 0 ≤ o ∧ o ≤ 60000) (hN : Ns z x y o D) : WP (f_X1_nextDuration 52 (M p z l)) (fun r => ∃ v z', r = (I3 v, M p z' l) ∧ (∀ k, k ≠ 52 → z' k = z k) ∧ ((D = [] ∧ v = 0 ∧ Ns z' x y o []) ∨ ∃ D', D = v :: D' ∧ Ns z' x y o D')) := by
  obtain ⟨i, j, L, hC, hM, hT, hG, hlen, hsp, rfl⟩ := hN
  unfold f_X1_nextDuration
  by_cases h9 : 0 < z 52 9
  · rw [if_pos h9]
    simp (disch := first | assumption | omega) only [↓b_hid, bH_some, ↓hid_W, W_some, I3_a, I3_s, I3_m, I3_n, I3_l, I3_lt, I3_le, I3_e, I3_dv, I3_rm, I3_mx, I3_mn, I3_ab, cI, bI_0, bI_1, rZ_b, up_same, up_row, up_col, xr_some, LQ_r, LQ_l, Int.sub_self, Int.add_zero, Int.zero_add, Int.sub_zero, Int.neg_neg, not_true_eq_false, not_false_eq_true, Int.add_sub_cancel, ↓ite_iH, iH_t, iH_f, bH_iH, ↓bH_bind, xr_iH, ↓xr_bind, W_iH, WI_t, WI_f, gI_52, pI_52, iO_52, gR_52_0, gR_52_1, pZ_52, iH_pos, iH_neg, WI_pos, WI_neg]
    refine ⟨z 52 9, _, rfl, fun k hk => up_row hk _ _ _, Or.inr ⟨dall L, rfl, i, j, L, Cm_congr (fun k k0 k1 => up_row (by omega) _ _ _) (fun c hc => up_col (by omega) _ _ _ _) hC, Mh_congr (fun c hc => up_col (by omega) _ _ _ _) hM, hT, hG, hlen, ?_, ?_⟩⟩
    · rw [up_same]; omega
    · rw [up_same]; rfl
  · rw [if_neg h9]
    rcases hM with ⟨rfl, h6⟩ | ⟨a, b, r, rfl, h6, h7, h8⟩
    · simp (disch := first | assumption | omega) only [↓b_hid, bH_some, ↓hid_W, W_some, I3_a, I3_s, I3_m, I3_n, I3_l, I3_lt, I3_le, I3_e, I3_dv, I3_rm, I3_mx, I3_mn, I3_ab, cI, bI_0, bI_1, rZ_b, up_same, up_row, up_col, xr_some, LQ_r, LQ_l, Int.sub_self, Int.add_zero, Int.zero_add, Int.sub_zero, Int.neg_neg, not_true_eq_false, not_false_eq_true, Int.add_sub_cancel, ↓ite_iH, iH_t, iH_f, bH_iH, ↓bH_bind, xr_iH, ↓xr_bind, W_iH, WI_t, WI_f, gI_52, pI_52, iO_52, gR_52_0, gR_52_1, pZ_52, h6, iH_pos, iH_neg, WI_pos, WI_neg]
      refine ⟨0, z, rfl, fun _ _ => rfl, Or.inl ⟨rfl, rfl, i, j, [], hC, Or.inl ⟨rfl, h6⟩, hT, hG, hlen, hsp, ?_⟩⟩
      rw [if_neg h9]; rfl
    · have hab := hG (a, b) (List.mem_cons_self ..)
      simp only at hab
      have hGr : Mg r := fun q hq => hG q (List.mem_cons_of_mem _ hq)
      simp only [List.length_cons] at hlen
      have hr : Lr x y o i j = r := hT _ _ rfl
      simp (disch := first | assumption | omega) only [↓b_hid, bH_some, ↓hid_W, W_some, I3_a, I3_s, I3_m, I3_n, I3_l, I3_lt, I3_le, I3_e, I3_dv, I3_rm, I3_mx, I3_mn, I3_ab, cI, bI_0, bI_1, rZ_b, up_same, up_row, up_col, xr_some, LQ_r, LQ_l, Int.sub_self, Int.add_zero, Int.zero_add, Int.sub_zero, Int.neg_neg, not_true_eq_false, not_false_eq_true, Int.add_sub_cancel, ↓ite_iH, iH_t, iH_f, bH_iH, ↓bH_bind, xr_iH, ↓xr_bind, W_iH, WI_t, WI_f, gI_52, pI_52, iO_52, gR_52_0, gR_52_1, pZ_52, h6, h7, h8, iH_pos, iH_neg, WI_pos, WI_neg]
      refine W_bH (W_imp (w_takeMark hx hy ho hC) ?_)
      rintro _ ⟨z1, i1, j1, rfl, a1, a2, a3, a4⟩
      rw [hr] at a3 a4
      unfold f_X1_nextDuration_44
      refine lp_W (fun m st => ∃ (t : Int) (k : Nat) (i' j' : Nat) (R : List (Int × Int)) (z' : Nat → Int → Int), st = (52, I3 a, I3 t, I3 k, M p z' l) ∧ a < t ∧ t ≤ 13000000 ∧ k + R.length ≤ 199 ∧ m = R.length ∧ FrC z z' ∧ Cm z' x y o i' j' ∧ Mh z' R ∧ (∀ q r, R = q :: r → Lr x y o i' j' = r) ∧ Mg R ∧ dr a t R = dr a b r) (fun m st hst => ?_) ⟨b, 0, i1, j1, r, z1, rfl, hab.2.1, hab.2.2, by omega, rfl, a1, a2, a3, a4, hGr, rfl⟩
      obtain ⟨t, k, i', j', R, z', rfl, ht1, ht2, hk, rfl, b1, b2, b3, b4, b5, b6⟩ := hst
      have h90 : z' 52 9 = z 52 9 := b1.2
      -- the end of the mark
      have fin : (R = [] ∨ ∃ c d q, R = (c, d) :: q ∧ t < c) → WP (f_X1_nextDuration_85 52 (I3 a) (I3 t) (M p z' l)) (fun r' => ∃ v z'', r' = (I3 v, M p z'' l) ∧ (∀ k, k ≠ 52 → z'' k = z k) ∧ (([] ++ dall ((a, b) :: r) = [] ∧ v = 0 ∧ Ns z'' x y o []) ∨ ∃ D', [] ++ dall ((a, b) :: r) = v :: D' ∧ Ns z'' x y o D')) := by
        intro hR
        have hd : [] ++ dall ((a, b) :: r) = dr a t R := by rw [b6]; rfl
        rw [hd]
        unfold f_X1_nextDuration_85
        rcases hR with rfl | ⟨c, d, q, rfl, hc⟩
        · rcases b3 with ⟨_, g6⟩ | ⟨_, _, _, h, _⟩
          · simp (disch := first | assumption | omega) only [↓b_hid, bH_some, ↓hid_W, W_some, I3_a, I3_s, I3_m, I3_n, I3_l, I3_lt, I3_le, I3_e, I3_dv, I3_rm, I3_mx, I3_mn, I3_ab, cI, bI_0, bI_1, rZ_b, up_same, up_row, up_col, xr_some, LQ_r, LQ_l, Int.sub_self, Int.add_zero, Int.zero_add, Int.sub_zero, Int.neg_neg, not_true_eq_false, not_false_eq_true, Int.add_sub_cancel, ↓ite_iH, iH_t, iH_f, bH_iH, ↓bH_bind, xr_iH, ↓xr_bind, W_iH, WI_t, WI_f, gI_52, pI_52, iO_52, gR_52_0, gR_52_1, pZ_52, g6, f_X1_nextDuration_103, iH_pos, iH_neg, WI_pos, WI_neg]
            refine ⟨t - a, _, rfl, fun k hk => by rw [up_row hk]; exact b1.1 k hk, Or.inr ⟨[], rfl, i', j', [], Cm_congr (fun k k0 k1 => up_row (by omega) _ _ _) (fun c hc => up_col (by omega) _ _ _ _) b2, Mh_congr (fun c hc => up_col (by omega) _ _ _ _) (Or.inl ⟨rfl, g6⟩), b4, b5, by simp, ?_, ?_⟩⟩
            · rw [up_same]; omega
            · rw [up_same]; rfl
          · cases h
        · have hcd := b5 (c, d) (List.mem_cons_self ..)
          simp only at hcd
          have hM := b3
          rcases b3 with ⟨h, _⟩ | ⟨c', d', q', h, g6, g7, g8⟩
          · cases h
          · have h1 := List.cons.inj h
            have h2 : c' = c := by have := h1.1; simp at this; exact this.1.symm
            subst h2
            simp only [List.length_cons] at hk
            simp (disch := first | assumption | omega) only [↓b_hid, bH_some, ↓hid_W, W_some, I3_a, I3_s, I3_m, I3_n, I3_l, I3_lt, I3_le, I3_e, I3_dv, I3_rm, I3_mx, I3_mn, I3_ab, cI, bI_0, bI_1, rZ_b, up_same, up_row, up_col, xr_some, LQ_r, LQ_l, Int.sub_self, Int.add_zero, Int.zero_add, Int.sub_zero, Int.neg_neg, not_true_eq_false, not_false_eq_true, Int.add_sub_cancel, ↓ite_iH, iH_t, iH_f, bH_iH, ↓bH_bind, xr_iH, ↓xr_bind, W_iH, WI_t, WI_f, gI_52, pI_52, iO_52, gR_52_0, gR_52_1, pZ_52, g6, g7, f_X1_nextDuration_103, iH_pos, iH_neg, WI_pos, WI_neg]
            have e1 : dr a t ((c', d) :: q) = (t - a) :: (c' - t) :: dr c' d q := by rw [dr, if_neg (by omega)]
            refine ⟨t - a, _, rfl, fun k hk => by rw [up_row hk]; exact b1.1 k hk, Or.inr ⟨(c' - t) :: dr c' d q, e1, i', j', (c', d) :: q, Cm_congr (fun k k0 k1 => up_row (by omega) _ _ _) (fun c hc => up_col (by omega) _ _ _ _) b2, Mh_congr (fun c hc => up_col (by omega) _ _ _ _) hM, b4, b5, by simp only [List.length_cons]; omega, ?_, ?_⟩⟩
            · rw [up_same]; omega
            · rw [up_same, if_pos (by omega)]; rfl
      unfold f_X1_nextDuration_44_b
      rcases hRc : R with _ | ⟨⟨c, d⟩, q⟩
      · subst hRc
        have hf := fin (Or.inl rfl)
        rcases b3 with ⟨_, g6⟩ | ⟨_, _, _, h, _⟩
        · simp (disch := first | assumption | omega) only [↓b_hid, bH_some, ↓hid_W, W_some, I3_a, I3_s, I3_m, I3_n, I3_l, I3_lt, I3_le, I3_e, I3_dv, I3_rm, I3_mx, I3_mn, I3_ab, cI, bI_0, bI_1, rZ_b, up_same, up_row, up_col, xr_some, LQ_r, LQ_l, Int.sub_self, Int.add_zero, Int.zero_add, Int.sub_zero, Int.neg_neg, not_true_eq_false, not_false_eq_true, Int.add_sub_cancel, ↓ite_iH, iH_t, iH_f, bH_iH, ↓bH_bind, xr_iH, ↓xr_bind, W_iH, WI_t, WI_f, gI_52, pI_52, iO_52, gR_52_0, gR_52_1, pZ_52, g6, iH_pos, iH_neg, WI_pos, WI_neg]
          refine W_xr ?_
          simp only [LQ_r]
          exact hf
        · cases h
      · subst hRc
        have hcd := b5 (c, d) (List.mem_cons_self ..)
        simp only at hcd
        have b3' := b3
        rcases b3 with ⟨h, _⟩ | ⟨c', d', q', h, g6, g7, g8⟩
        · cases h
        · have h1 := List.cons.inj h
          have h2 : c' = c ∧ d' = d := by have := h1.1; simp at this; exact ⟨this.1.symm, this.2.symm⟩
          obtain ⟨rfl, rfl⟩ := h2
          simp only [List.length_cons] at hk
          by_cases hct : c' ≤ t
          · simp (disch := first | assumption | omega) only [↓b_hid, bH_some, ↓hid_W, W_some, I3_a, I3_s, I3_m, I3_n, I3_l, I3_lt, I3_le, I3_e, I3_dv, I3_rm, I3_mx, I3_mn, I3_ab, cI, bI_0, bI_1, rZ_b, up_same, up_row, up_col, xr_some, LQ_r, LQ_l, Int.sub_self, Int.add_zero, Int.zero_add, Int.sub_zero, Int.neg_neg, not_true_eq_false, not_false_eq_true, Int.add_sub_cancel, ↓ite_iH, iH_t, iH_f, bH_iH, ↓bH_bind, xr_iH, ↓xr_bind, W_iH, WI_t, WI_f, gI_52, pI_52, iO_52, gR_52_0, gR_52_1, pZ_52, g6, g7, g8, iH_pos, iH_neg, WI_pos, WI_neg]
            refine W_bH (W_imp (w_takeMark hx hy ho b2) ?_)
            rintro _ ⟨z3, i3, j3, rfl, d1, d2, d3, d4⟩
            rw [b4 _ _ rfl] at d3 d4
            simp (disch := first | assumption | omega) only [↓b_hid, bH_some, ↓hid_W, W_some, I3_a, I3_s, I3_m, I3_n, I3_l, I3_lt, I3_le, I3_e, I3_dv, I3_rm, I3_mx, I3_mn, I3_ab, cI, bI_0, bI_1, rZ_b, up_same, up_row, up_col, xr_some, LQ_r, LQ_l, Int.sub_self, Int.add_zero, Int.zero_add, Int.sub_zero, Int.neg_neg, not_true_eq_false, not_false_eq_true, Int.add_sub_cancel, ↓ite_iH, iH_t, iH_f, bH_iH, ↓bH_bind, xr_iH, ↓xr_bind, W_iH, WI_t, WI_f]
            refine ⟨q.length, by simp, _, k + 1, i3, j3, q, z3, by rw [Int.natCast_add]; rfl, by split <;> omega, by split <;> omega, by omega, rfl, ⟨fun k hk => (d1.1 k hk).trans (b1.1 k hk), d1.2.trans b1.2⟩, d2, d3, d4, fun v hv => b5 v (List.mem_cons_of_mem _ hv), ?_⟩
            rw [← b6, dr, if_pos hct]
          · have hf := fin (Or.inr ⟨c', d', q, rfl, by omega⟩)
            simp (disch := first | assumption | omega) only [↓b_hid, bH_some, ↓hid_W, W_some, I3_a, I3_s, I3_m, I3_n, I3_l, I3_lt, I3_le, I3_e, I3_dv, I3_rm, I3_mx, I3_mn, I3_ab, cI, bI_0, bI_1, rZ_b, up_same, up_row, up_col, xr_some, LQ_r, LQ_l, Int.sub_self, Int.add_zero, Int.zero_add, Int.sub_zero, Int.neg_neg, not_true_eq_false, not_false_eq_true, Int.add_sub_cancel, ↓ite_iH, iH_t, iH_f, bH_iH, ↓bH_bind, xr_iH, ↓xr_bind, W_iH, WI_t, WI_f, gI_52, pI_52, iO_52, gR_52_0, gR_52_1, pZ_52, g6, g7, iH_pos, iH_neg, WI_pos, WI_neg]
            refine W_xr ?_
            simp only [LQ_r]
            exact hf
theorem Lr0_len {x y : Dn} (o : Int) (hx : Gd x) (hy : Gd y) : (Lr x y o 0 0).length ≤ 200 := by
  have h := mrg_len x y o 400 0 0
  have h1 := hx.1
  have h2 := hy.1
  unfold Lr
  split at h <;> split at h <;> omega
theorem w_begin {x y : Dn} {o : Int} (hx : Gd x) (hy : Gd y) (ho : 0 ≤ o ∧ o ≤ 60000) (h1 : Trx z 53 x) (h2 : Trx z 55 y) : WP (f_X1_begin 52 (I3 o) (M p z l)) (fun μ => ∃ z', μ = M p z' l ∧ (∀ k, k ≠ 52 → z' k = z k) ∧ Ns z' x y o (colD x y o)) := by
  unfold f_X1_begin
  simp (disch := first | assumption | omega) only [↓b_hid, bH_some, ↓hid_W, W_some, I3_a, I3_s, I3_m, I3_n, I3_l, I3_lt, I3_le, I3_e, I3_dv, I3_rm, I3_mx, I3_mn, I3_ab, cI, bI_0, bI_1, rZ_b, up_same, up_row, up_col, xr_some, LQ_r, LQ_l, Int.sub_self, Int.add_zero, Int.zero_add, Int.sub_zero, Int.neg_neg, not_true_eq_false, not_false_eq_true, Int.add_sub_cancel, ↓ite_iH, iH_t, iH_f, bH_iH, ↓bH_bind, xr_iH, ↓xr_bind, W_iH, WI_t, WI_f, gI_52, pI_52, iO_52, gR_52_0, gR_52_1, pZ_52]
  generalize hz1 : up (up (up (up (up z 52 2 0) 52 3 0) 52 4 0) 52 5 o) 52 9 0 = z1
  have hr : ∀ k, k ≠ 52 → z1 k = z k := fun k hk => by rw [← hz1]; simp (disch := omega) only [up_row]
  have hC : Cm z1 x y o 0 0 := by
    refine ⟨Tr_congr (hr 53 (by decide)) (hr 54 (by decide)) h1, Tr_congr (hr 55 (by decide)) (hr 56 (by decide)) h2, ?_, ?_, ?_, ?_, by omega, by omega⟩
    · rw [← hz1]; simp (disch := omega) only [up_col, up_same]; rfl
    · rw [← hz1]; simp (disch := omega) only [up_col, up_same]; rfl
    · rw [← hz1]; simp (disch := omega) only [up_col, up_same]; rfl
    · rw [← hz1]; simp (disch := omega) only [up_col, up_same]; simp [Tm]
  have h9 : z1 52 9 = 0 := by rw [← hz1, up_same]
  refine W_bH (W_imp (w_takeMark hx hy ho hC) ?_)
  rintro _ ⟨z2, i', j', rfl, a1, a2, a3, a4⟩
  simp (disch := first | assumption | omega) only [↓b_hid, bH_some, ↓hid_W, W_some, I3_a, I3_s, I3_m, I3_n, I3_l, I3_lt, I3_le, I3_e, I3_dv, I3_rm, I3_mx, I3_mn, I3_ab, cI, bI_0, bI_1, rZ_b, up_same, up_row, up_col, xr_some, LQ_r, LQ_l, Int.sub_self, Int.add_zero, Int.zero_add, Int.sub_zero, Int.neg_neg, not_true_eq_false, not_false_eq_true, Int.add_sub_cancel, ↓ite_iH, iH_t, iH_f, bH_iH, ↓bH_bind, xr_iH, ↓xr_bind, W_iH, WI_t, WI_f]
  refine ⟨z2, rfl, fun k hk => (a1.1 k hk).trans (hr k hk), i', j', Lr x y o 0 0, a2, a3, a4, Lr_cons_g hx hy ho 0 0, Lr0_len o hx hy, by rw [a1.2, h9]; omega, ?_⟩
  rw [a1.2, h9, if_neg (by decide)]; rfl
theorem w_lay {a b : Nat} {x y : Dn} (ha : isT a) (hb : isT b) (hs : a + 1 < 53 ∨ 57 ≤ a) (hs' : b + 1 < 53 ∨ 57 ≤ b) (hx : Trx z a x) (hy : Trx z b y) (h0 : 0 ≤ x.1 ∧ x.1 ≤ 200) (h1 : 0 ≤ y.1 ∧ y.1 ≤ 200) : WP (f_X1_lay 52 a b (M p z l)) (fun μ => ∃ z', μ = M p z' l ∧ Trx z' 53 x ∧ Trx z' 55 y ∧ ∀ k, k < 53 ∨ 57 ≤ k → z' k = z k) := by
  have h53 := isT_53
  have h55 := isT_55
  have ex : z a 1 = x.1 := hx.1
  have ey : z b 1 = y.1 := hy.1
  have c1 := g_tcopy (p := p) (z := z) (l := l) isT_53 ha (by omega) (by omega) (by omega) (by omega)
  rw [ex] at c1
  generalize hz1 : cpr (up z 53 1 x.1) (a + 1) (53 + 1) x.1 = z1 at c1
  have r1 : ∀ k, k ≠ 53 → k ≠ 54 → z1 k = z k := fun k k0 k1 => by rw [← hz1, cpr_row k1, up_row k0]
  have t1 : Trx z1 53 x := by
    rw [← hz1]
    refine ⟨by rw [cpr_row (by decide), up_same], fun i i0 i1 => ?_⟩
    rw [cpr_in rfl i0 i1, up_row (by omega)]; exact hx.2 i i0 i1
  have eyb : z1 b 1 = y.1 := by rw [r1 b (by omega) (by omega)]; exact ey
  have c2 := g_tcopy (p := p) (z := z1) (l := l) isT_55 hb (by omega) (by omega) (by omega) (by omega)
  rw [eyb] at c2
  unfold f_X1_lay
  simp (disch := first | assumption | omega) only [↓b_hid, bH_some, ↓hid_W, W_some, I3_a, I3_s, I3_m, I3_n, I3_l, I3_lt, I3_le, I3_e, I3_dv, I3_rm, I3_mx, I3_mn, I3_ab, cI, bI_0, bI_1, rZ_b, up_same, up_row, up_col, xr_some, LQ_r, LQ_l, Int.sub_self, Int.add_zero, Int.zero_add, Int.sub_zero, Int.neg_neg, not_true_eq_false, not_false_eq_true, Int.add_sub_cancel, ↓ite_iH, iH_t, iH_f, bH_iH, ↓bH_bind, xr_iH, ↓xr_bind, W_iH, WI_t, WI_f, gI_52, pI_52, iO_52, gR_52_0, gR_52_1, pZ_52, iO_T, c1, c2]
  refine ⟨_, rfl, Tr_congr (by rw [cpr_row (by decide), up_row (by decide)]) (by rw [cpr_row (by decide), up_row (by decide)]) t1, ⟨by rw [cpr_row (by decide), up_same], fun i i0 i1 => ?_⟩, fun k hk => by rw [cpr_row (by omega), up_row (by omega), r1 k (by omega) (by omega)]⟩
  rw [cpr_in rfl i0 i1, up_row (by omega), r1 _ (by omega) (by omega)]; exact hy.2 i i0 i1
set_option maxHeartbeats 4000000 in
theorem w_writeTo {x y : Dn} {o : Int} {D : List Int} (hx : Gd x) (hy : Gd y) (ho : 0 ≤ o ∧ o ≤ 60000) (hN : Ns z x y o D) : WP (f_X1_writeTo 52 32 (M p z l)) (fun r => ∃ v z', r = (I3 v, M p z' l) ∧ (∀ k, k ≠ 52 → k ≠ 32 → k ≠ 33 → z' k = z k) ∧ ((D.length ≤ 200 ∧ v = 1 ∧ Trx z' 32 (D.length, lf D)) ∨ (200 < D.length ∧ v = 0))) := by
  have ht := isT_32
  unfold f_X1_writeTo
  simp (disch := first | assumption | omega) only [↓b_hid, bH_some, ↓hid_W, W_some, I3_a, I3_s, I3_m, I3_n, I3_l, I3_lt, I3_le, I3_e, I3_dv, I3_rm, I3_mx, I3_mn, I3_ab, cI, bI_0, bI_1, rZ_b, up_same, up_row, up_col, xr_some, LQ_r, LQ_l, Int.sub_self, Int.add_zero, Int.zero_add, Int.sub_zero, Int.neg_neg, not_true_eq_false, not_false_eq_true, Int.add_sub_cancel, ↓ite_iH, iH_t, iH_f, bH_iH, ↓bH_bind, xr_iH, ↓xr_bind, W_iH, WI_t, WI_f, gI_52, pI_52, iO_52, gR_52_0, gR_52_1, pZ_52, pI_T]
  have hN1 : Ns (up z 32 1 0) x y o D := Ns_congr (fun k k0 k1 => up_row (by omega) _ _ _) hN
  refine W_bH (W_imp (w_next hx hy ho hN1) ?_)
  rintro _ ⟨v, z1, rfl, a1, a2⟩
  unfold f_X1_writeTo_12
  refine lp_W (fun m st => ∃ (v : Int) (O : List Int) (z' : Nat → Int → Int), st = (52, 32, I3 v, I3 O.length, M p z' l) ∧ O.length ≤ 200 ∧ m = 200 - O.length ∧ Trx z' 32 (O.length, lf O) ∧ (∀ k, k ≠ 52 → k ≠ 32 → k ≠ 33 → z' k = z k) ∧ ((D = O ∧ v = 0) ∨ ∃ D', D = O ++ v :: D' ∧ (1 ≤ v ∧ v ≤ 13000000) ∧ Ns z' x y o D')) (fun m st hst => ?_) ⟨v, [], z1, rfl, by simp, rfl, ⟨?_, fun i i0 i1 => by simp at i1; omega⟩, fun k k0 k1 k2 => by rw [a1 k k0, up_row k1], ?_⟩
  · obtain ⟨v, O, z', rfl, hO, rfl, hT, hF, hD⟩ := hst
    have hv : 0 ≤ v ∧ v ≤ 13000000 := by
      rcases hD with ⟨_, h⟩ | ⟨_, _, h, _⟩ <;> omega
    unfold f_X1_writeTo_12_b
    by_cases h200 : O.length < 200
    · rcases hD with ⟨rfl, rfl⟩ | ⟨D', rfl, hv1, hNs⟩
      · simp (disch := first | assumption | omega) only [↓b_hid, bH_some, ↓hid_W, W_some, I3_a, I3_s, I3_m, I3_n, I3_l, I3_lt, I3_le, I3_e, I3_dv, I3_rm, I3_mx, I3_mn, I3_ab, cI, bI_0, bI_1, rZ_b, up_same, up_row, up_col, xr_some, LQ_r, LQ_l, Int.sub_self, Int.add_zero, Int.zero_add, Int.sub_zero, Int.neg_neg, not_true_eq_false, not_false_eq_true, Int.add_sub_cancel, ↓ite_iH, iH_t, iH_f, bH_iH, ↓bH_bind, xr_iH, ↓xr_bind, W_iH, WI_t, WI_f, f_X1_writeTo_39, iH_pos, iH_neg, WI_pos, WI_neg]
        exact ⟨1, z', rfl, hF, Or.inl ⟨hO, rfl, hT⟩⟩
      · simp (disch := first | assumption | omega) only [↓b_hid, bH_some, ↓hid_W, W_some, I3_a, I3_s, I3_m, I3_n, I3_l, I3_lt, I3_le, I3_e, I3_dv, I3_rm, I3_mx, I3_mn, I3_ab, cI, bI_0, bI_1, rZ_b, up_same, up_row, up_col, xr_some, LQ_r, LQ_l, Int.sub_self, Int.add_zero, Int.zero_add, Int.sub_zero, Int.neg_neg, not_true_eq_false, not_false_eq_true, Int.add_sub_cancel, ↓ite_iH, iH_t, iH_f, bH_iH, ↓bH_bind, xr_iH, ↓xr_bind, W_iH, WI_t, WI_f, gI_52, pI_52, iO_52, gR_52_0, gR_52_1, pZ_52, iO_T, iH_pos, iH_neg, WI_pos, WI_neg]
        refine W_bH (W_imp (w_put ht hT (by simp only; omega) (by simp only; omega)) ?_)
        rintro _ ⟨z2, rfl, b1, b2⟩
        have hN2 : Ns z2 x y o D' := Ns_congr (fun k k0 k1 => b2 k (by omega) (by omega)) hNs
        simp (disch := first | assumption | omega) only [↓b_hid, bH_some, ↓hid_W, W_some, I3_a, I3_s, I3_m, I3_n, I3_l, I3_lt, I3_le, I3_e, I3_dv, I3_rm, I3_mx, I3_mn, I3_ab, cI, bI_0, bI_1, rZ_b, up_same, up_row, up_col, xr_some, LQ_r, LQ_l, Int.sub_self, Int.add_zero, Int.zero_add, Int.sub_zero, Int.neg_neg, not_true_eq_false, not_false_eq_true, Int.add_sub_cancel, ↓ite_iH, iH_t, iH_f, bH_iH, ↓bH_bind, xr_iH, ↓xr_bind, W_iH, WI_t, WI_f, gI_52, pI_52, iO_52, gR_52_0, gR_52_1, pZ_52]
        refine W_bH (W_imp (w_next hx hy ho hN2) ?_)
        rintro _ ⟨w, z3, rfl, c1, c2⟩
        simp (disch := first | assumption | omega) only [↓b_hid, bH_some, ↓hid_W, W_some, I3_a, I3_s, I3_m, I3_n, I3_l, I3_lt, I3_le, I3_e, I3_dv, I3_rm, I3_mx, I3_mn, I3_ab, cI, bI_0, bI_1, rZ_b, up_same, up_row, up_col, xr_some, LQ_r, LQ_l, Int.sub_self, Int.add_zero, Int.zero_add, Int.sub_zero, Int.neg_neg, not_true_eq_false, not_false_eq_true, Int.add_sub_cancel, ↓ite_iH, iH_t, iH_f, bH_iH, ↓bH_bind, xr_iH, ↓xr_bind, W_iH, WI_t, WI_f]
        have hlen : (O ++ [v]).length = O.length + 1 := by simp
        refine ⟨200 - (O ++ [v]).length, by omega, w, O ++ [v], z3, by rw [hlen, Int.natCast_add]; rfl, by omega, rfl, ?_, ?_, ?_⟩
        · refine Tr_congr (c1 32 (by decide)) (c1 33 (by decide)) ?_
          obtain ⟨d1, d2⟩ := b1
          refine ⟨by rw [d1]; simp [fput], fun i i0 i1 => ?_⟩
          rw [d2 i i0 (by simp only [fput]; simp only [hlen] at i1; omega)]
          show (if i = (O.length : Int) then v else lf O i) = lf (O ++ [v]) i
          rw [lf_app i0]
          by_cases hi : i < O.length
          · rw [if_neg (by omega), if_pos hi]
          · rw [if_pos (by simp only [hlen] at i1; omega), if_neg hi, if_pos (by simp only [hlen] at i1; omega)]
        · intro k k0 k1 k2
          rw [c1 k k0, b2 k k1 k2, hF k k0 k1 k2]
        · rcases c2 with ⟨rfl, rfl, h⟩ | ⟨D'', rfl, h⟩
          · exact Or.inl ⟨rfl, rfl⟩
          · have := Ns_pos hN2 w (List.mem_cons_self ..)
            exact Or.inr ⟨D'', by simp, this, h⟩
    · have h200' : O.length = 200 := by omega
      rcases hD with ⟨rfl, rfl⟩ | ⟨D', rfl, hv1, hNs⟩
      · simp (disch := first | assumption | omega) only [↓b_hid, bH_some, ↓hid_W, W_some, I3_a, I3_s, I3_m, I3_n, I3_l, I3_lt, I3_le, I3_e, I3_dv, I3_rm, I3_mx, I3_mn, I3_ab, cI, bI_0, bI_1, rZ_b, up_same, up_row, up_col, xr_some, LQ_r, LQ_l, Int.sub_self, Int.add_zero, Int.zero_add, Int.sub_zero, Int.neg_neg, not_true_eq_false, not_false_eq_true, Int.add_sub_cancel, ↓ite_iH, iH_t, iH_f, bH_iH, ↓bH_bind, xr_iH, ↓xr_bind, W_iH, WI_t, WI_f, f_X1_writeTo_39, iH_pos, iH_neg, WI_pos, WI_neg]
        exact ⟨1, z', rfl, hF, Or.inl ⟨hO, rfl, hT⟩⟩
      · simp (disch := first | assumption | omega) only [↓b_hid, bH_some, ↓hid_W, W_some, I3_a, I3_s, I3_m, I3_n, I3_l, I3_lt, I3_le, I3_e, I3_dv, I3_rm, I3_mx, I3_mn, I3_ab, cI, bI_0, bI_1, rZ_b, up_same, up_row, up_col, xr_some, LQ_r, LQ_l, Int.sub_self, Int.add_zero, Int.zero_add, Int.sub_zero, Int.neg_neg, not_true_eq_false, not_false_eq_true, Int.add_sub_cancel, ↓ite_iH, iH_t, iH_f, bH_iH, ↓bH_bind, xr_iH, ↓xr_bind, W_iH, WI_t, WI_f, f_X1_writeTo_39, iH_pos, iH_neg, WI_pos, WI_neg]
        exact ⟨0, z', rfl, hF, Or.inr ⟨by simp; omega, rfl⟩⟩
  · rw [a1 32 (by decide), up_same]; rfl
  · rcases a2 with ⟨rfl, rfl, h⟩ | ⟨D', rfl, h⟩
    · exact Or.inl ⟨rfl, rfl⟩
    · have := Ns_pos hN1 v (List.mem_cons_self ..)
      exact Or.inr ⟨D', rfl, this, h⟩
end
