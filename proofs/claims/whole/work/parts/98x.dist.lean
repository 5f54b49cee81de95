/-! distort(): both sides. -/
theorem ste_e (c k : Int) : ste c k = (k % 3 - 1) * c := by
  unfold ste
  have : k % 3 = 0 ∨ k % 3 = 1 ∨ k % 3 = 2 := by omega
  rcases this with h | h | h <;> rw [h] <;> simp
theorem stv_d (d e : Int) : d * (100 + e) / 100 = d + d * e / 100 := by
  rw [Int.mul_add]; generalize d * e = x; omega
theorem stc_c {d d' : Int → Int} (c : Int) : ∀ n : Nat, (∀ i : Int, 0 ≤ i → i < n → d i = d' i) → stc d c n = stc d' c n
  | 0, _ => rfl
  | n + 1, h => by
    rw [stc, stc, stc_c c n (fun i i0 i1 => h i i0 (by omega)), h n (by omega) (by omega)]
def dsT (σ : Int → Int) (s : Nat) (c : Int) : Dn := (σ (83 + s), fun i => stv (dσ σ s i) (ste c i))
theorem Gd_dsT {σ : Int → Int} {s : Nat} {c : Int} (hV : V σ) (hs : s < 3) : Gd (dsT σ s c) := ⟨(σ_tr hV hs).1, fun i _ _ => stv_r _ _⟩
def sgn (w c : Int) : Int := if w = 0 then c else -c
def A_dist (σ : Int → Int) (s c w : Int) : Int := if 0 ≤ s ∧ s ≤ 2 then (if 0 ≤ c ∧ c ≤ 30 then (if 0 ≤ w ∧ w ≤ 1 then stc (dσ σ s.toNat) (sgn w c) (σ (83 + s)).toNat else -1) else -1) else -1
def G_dist (s c w : Int) : Prop := (0 ≤ s ∧ s ≤ 2) ∧ (0 ≤ c ∧ c ≤ 30) ∧ (0 ≤ w ∧ w ≤ 1)
section
variable {p : Nat → Nat} {z l : Nat → Int → Int}
theorem m_floor {x : Int} {μ : MS} (h0 : -100000000 ≤ x) (h1 : x ≤ 100000000) : f_X12_floor (I3 x) (I3 100) μ = some (I3 (x / 100), μ) := by
  apply W_eq
  unfold f_X12_floor
  by_cases h : x < 0
  · have e : -((-x + 100 - 1) / 100) = x / 100 := by omega
    simp (disch := first | assumption | omega) only [↓b_hid, bH_some, ↓hid_W, W_some, I3_a, I3_s, I3_m, I3_n, I3_l, I3_lt, I3_le, I3_e, I3_dv, I3_rm, I3_mx, I3_mn, I3_ab, cI, bI_0, bI_1, rZ_b, up_same, up_row, up_col, xr_some, LQ_r, LQ_l, Int.sub_self, Int.add_zero, Int.zero_add, Int.sub_zero, Int.neg_neg, not_true_eq_false, not_false_eq_true, Int.add_sub_cancel, ↓ite_iH, iH_t, iH_f, bH_iH, ↓bH_bind, xr_iH, ↓xr_bind, W_iH, WI_t, WI_f, e, iH_pos, iH_neg, WI_pos, WI_neg]
  · simp (disch := first | assumption | omega) only [↓b_hid, bH_some, ↓hid_W, W_some, I3_a, I3_s, I3_m, I3_n, I3_l, I3_lt, I3_le, I3_e, I3_dv, I3_rm, I3_mx, I3_mn, I3_ab, cI, bI_0, bI_1, rZ_b, up_same, up_row, up_col, xr_some, LQ_r, LQ_l, Int.sub_self, Int.add_zero, Int.zero_add, Int.sub_zero, Int.neg_neg, not_true_eq_false, not_false_eq_true, Int.add_sub_cancel, ↓ite_iH, iH_t, iH_f, bH_iH, ↓bH_bind, xr_iH, ↓xr_bind, W_iH, WI_t, WI_f, iH_pos, iH_neg, WI_pos, WI_neg]
set_option maxHeartbeats 4000000 in
theorem m_ds69 {s k pc tn cnt c d : Int} {Q : (Nat × Int32 × Int32 × Int32 × Int32 × Int32 × MS) ⊕ (Int32 × MS) → Prop} (hs : 0 ≤ s ∧ s ≤ 2) (hk : 0 ≤ k ∧ k < 200) (hc : -30 ≤ c) (hc' : c ≤ 30) (hd : z 190 (86 + 200 * s + k) = d) (hd' : 1 ≤ d ∧ d ≤ 60000) (hQ : Q (.inl (189, I3 s, I3 pc, I3 tn, I3 (cnt + if stv d (ste c k) = d then 0 else 1), I3 (k + 1), M p (up z 190 (86 + 200 * s + k) (stv d (ste c k))) l))) : WP (f_X12_distort_69 189 (I3 s) (I3 pc) (I3 tn) (I3 cnt) (I3 k) (I3 c) (I3 (k % 3 - 1)) (M p z l)) Q := by
  have he := ste_r (k := k) hc hc'
  have hm := ste_m hd'.1 hd'.2 he.1 he.2
  have hde := stv_d d (ste c k)
  have hsv : stv d (ste c k) = if d + d * ste c k / 100 < 1 then 1 else if 60000 < d + d * ste c k / 100 then 60000 else d + d * ste c k / 100 := by unfold stv; rw [hde]
  rw [Int.mul_add] at hm
  rw [ste_e] at hm hsv hQ
  generalize hE : (k % 3 - 1) * c = e at hm hsv hQ
  have key : ∀ v : Int, v = stv d e → WP (f_X12_distort_125 189 (I3 s) (I3 pc) (I3 tn) (I3 cnt) (I3 k) (I3 d) (I3 v) (M p z l)) Q := by
    intro v hv
    have hr := stv_r d e
    rw [← hv] at hQ hr
    unfold f_X12_distort_125
    by_cases h : v = d
    · rw [if_pos h, Int.add_zero] at hQ
      simp (disch := first | assumption | omega) only [↓b_hid, bH_some, ↓hid_W, W_some, I3_a, I3_s, I3_m, I3_n, I3_l, I3_lt, I3_le, I3_e, I3_dv, I3_rm, I3_mx, I3_mn, I3_ab, cI, bI_0, bI_1, rZ_b, up_same, up_row, up_col, xr_some, LQ_r, LQ_l, Int.sub_self, Int.add_zero, Int.zero_add, Int.sub_zero, Int.neg_neg, not_true_eq_false, not_false_eq_true, Int.add_sub_cancel, ↓ite_iH, iH_t, iH_f, bH_iH, ↓bH_bind, xr_iH, ↓xr_bind, W_iH, WI_t, WI_f, gI_189, pI_189, iO_189, gR_189_0, aI_190, sI_190, gR_189_1, aI_191, sI_191, gR_189_3, aI_192, gR_189_10, aI_193, sI_193, gR_189_11, aI_194, sI_194, gR_189_13, aI_195, sI_195, gR_189_15, aI_196, sI_196, gR_189_17, aI_197, sI_197, gR_189_18, aI_198, sI_198, gR_189_19, aI_199, sI_199, gR_189_20, aI_200, sI_200, gR_189_23, aI_201, gR_189_24, aI_202, sI_202, gR_189_25, aI_203, sI_203, gR_189_29, aI_204, sI_204, gR_189_32, aI_205, sI_205, gR_189_35, aI_206, sI_206, pZ_189, gL_189, pL_189, m_trainAt, f_X12_distort_155, iH_pos, iH_neg, WI_pos, WI_neg]
      exact hQ
    · rw [if_neg h] at hQ
      simp (disch := first | assumption | omega) only [↓b_hid, bH_some, ↓hid_W, W_some, I3_a, I3_s, I3_m, I3_n, I3_l, I3_lt, I3_le, I3_e, I3_dv, I3_rm, I3_mx, I3_mn, I3_ab, cI, bI_0, bI_1, rZ_b, up_same, up_row, up_col, xr_some, LQ_r, LQ_l, Int.sub_self, Int.add_zero, Int.zero_add, Int.sub_zero, Int.neg_neg, not_true_eq_false, not_false_eq_true, Int.add_sub_cancel, ↓ite_iH, iH_t, iH_f, bH_iH, ↓bH_bind, xr_iH, ↓xr_bind, W_iH, WI_t, WI_f, gI_189, pI_189, iO_189, gR_189_0, aI_190, sI_190, gR_189_1, aI_191, sI_191, gR_189_3, aI_192, gR_189_10, aI_193, sI_193, gR_189_11, aI_194, sI_194, gR_189_13, aI_195, sI_195, gR_189_15, aI_196, sI_196, gR_189_17, aI_197, sI_197, gR_189_18, aI_198, sI_198, gR_189_19, aI_199, sI_199, gR_189_20, aI_200, sI_200, gR_189_23, aI_201, gR_189_24, aI_202, sI_202, gR_189_25, aI_203, sI_203, gR_189_29, aI_204, sI_204, gR_189_32, aI_205, sI_205, gR_189_35, aI_206, sI_206, pZ_189, gL_189, pL_189, m_trainAt, f_X12_distort_155, iH_pos, iH_neg, WI_pos, WI_neg]
      exact hQ
  have hfl := fun μ => m_floor (μ := μ) (x := d * e) (by omega) (by omega)
  unfold f_X12_distort_69
  generalize hde2 : d * e = de at *
  by_cases h1 : d + de / 100 < 1
  · have := key 1 (by rw [hsv, if_pos h1])
    simp (disch := first | assumption | omega) only [↓b_hid, bH_some, ↓hid_W, W_some, I3_a, I3_s, I3_m, I3_n, I3_l, I3_lt, I3_le, I3_e, I3_dv, I3_rm, I3_mx, I3_mn, I3_ab, cI, bI_0, bI_1, rZ_b, up_same, up_row, up_col, xr_some, LQ_r, LQ_l, Int.sub_self, Int.add_zero, Int.zero_add, Int.sub_zero, Int.neg_neg, not_true_eq_false, not_false_eq_true, Int.add_sub_cancel, ↓ite_iH, iH_t, iH_f, bH_iH, ↓bH_bind, xr_iH, ↓xr_bind, W_iH, WI_t, WI_f, gI_189, pI_189, iO_189, gR_189_0, aI_190, sI_190, gR_189_1, aI_191, sI_191, gR_189_3, aI_192, gR_189_10, aI_193, sI_193, gR_189_11, aI_194, sI_194, gR_189_13, aI_195, sI_195, gR_189_15, aI_196, sI_196, gR_189_17, aI_197, sI_197, gR_189_18, aI_198, sI_198, gR_189_19, aI_199, sI_199, gR_189_20, aI_200, sI_200, gR_189_23, aI_201, gR_189_24, aI_202, sI_202, gR_189_25, aI_203, sI_203, gR_189_29, aI_204, sI_204, gR_189_32, aI_205, sI_205, gR_189_35, aI_206, sI_206, pZ_189, gL_189, pL_189, m_trainAt, hE, hd, hde2, hfl, iH_pos, iH_neg, WI_pos, WI_neg]
    exact this
  · by_cases h2 : 60000 < d + de / 100
    · have := key 60000 (by rw [hsv, if_neg h1, if_pos h2])
      simp (disch := first | assumption | omega) only [↓b_hid, bH_some, ↓hid_W, W_some, I3_a, I3_s, I3_m, I3_n, I3_l, I3_lt, I3_le, I3_e, I3_dv, I3_rm, I3_mx, I3_mn, I3_ab, cI, bI_0, bI_1, rZ_b, up_same, up_row, up_col, xr_some, LQ_r, LQ_l, Int.sub_self, Int.add_zero, Int.zero_add, Int.sub_zero, Int.neg_neg, not_true_eq_false, not_false_eq_true, Int.add_sub_cancel, ↓ite_iH, iH_t, iH_f, bH_iH, ↓bH_bind, xr_iH, ↓xr_bind, W_iH, WI_t, WI_f, gI_189, pI_189, iO_189, gR_189_0, aI_190, sI_190, gR_189_1, aI_191, sI_191, gR_189_3, aI_192, gR_189_10, aI_193, sI_193, gR_189_11, aI_194, sI_194, gR_189_13, aI_195, sI_195, gR_189_15, aI_196, sI_196, gR_189_17, aI_197, sI_197, gR_189_18, aI_198, sI_198, gR_189_19, aI_199, sI_199, gR_189_20, aI_200, sI_200, gR_189_23, aI_201, gR_189_24, aI_202, sI_202, gR_189_25, aI_203, sI_203, gR_189_29, aI_204, sI_204, gR_189_32, aI_205, sI_205, gR_189_35, aI_206, sI_206, pZ_189, gL_189, pL_189, m_trainAt, hE, hd, hde2, hfl, iH_pos, iH_neg, WI_pos, WI_neg]
      exact this
    · have := key (d + de / 100) (by rw [hsv, if_neg h1, if_neg h2])
      simp (disch := first | assumption | omega) only [↓b_hid, bH_some, ↓hid_W, W_some, I3_a, I3_s, I3_m, I3_n, I3_l, I3_lt, I3_le, I3_e, I3_dv, I3_rm, I3_mx, I3_mn, I3_ab, cI, bI_0, bI_1, rZ_b, up_same, up_row, up_col, xr_some, LQ_r, LQ_l, Int.sub_self, Int.add_zero, Int.zero_add, Int.sub_zero, Int.neg_neg, not_true_eq_false, not_false_eq_true, Int.add_sub_cancel, ↓ite_iH, iH_t, iH_f, bH_iH, ↓bH_bind, xr_iH, ↓xr_bind, W_iH, WI_t, WI_f, gI_189, pI_189, iO_189, gR_189_0, aI_190, sI_190, gR_189_1, aI_191, sI_191, gR_189_3, aI_192, gR_189_10, aI_193, sI_193, gR_189_11, aI_194, sI_194, gR_189_13, aI_195, sI_195, gR_189_15, aI_196, sI_196, gR_189_17, aI_197, sI_197, gR_189_18, aI_198, sI_198, gR_189_19, aI_199, sI_199, gR_189_20, aI_200, sI_200, gR_189_23, aI_201, gR_189_24, aI_202, sI_202, gR_189_25, aI_203, sI_203, gR_189_29, aI_204, sI_204, gR_189_32, aI_205, sI_205, gR_189_35, aI_206, sI_206, pZ_189, gL_189, pL_189, m_trainAt, hE, hd, hde2, hfl, iH_pos, iH_neg, WI_pos, WI_neg]
      exact this
set_option maxHeartbeats 4000000 in
theorem m_ds38 {s : Nat} {pc tn c n : Int} {σ : Int → Int} (hs : s < 3) (hV : V σ) (hσ : z 190 = σ) (hpc : 0 ≤ pc ∧ pc ≤ 30) (htn : 0 ≤ tn ∧ tn ≤ 1) (hc : c = sgn tn pc) : WP (f_X12_distort_38 189 (I3 s) (I3 pc) (I3 tn) (I3 0) (I3 0) (M p z l)) (fun r => ∃ z', r = (I3 (stc (dσ σ s) c (σ (83 + s)).toNat), M p z' l) ∧ (∀ k, k ≠ 190 → z' k = z k) ∧ ∀ j, z' 190 j = tσ σ s (dsT σ s c) j) := by
  have ht := σ_tr hV hs
  have hcr : -30 ≤ c ∧ c ≤ 30 := by rw [hc]; unfold sgn; split <;> omega
  unfold f_X12_distort_38
  refine lp_W (fun m st => ∃ (k : Nat) (z' : Nat → Int → Int), st = (189, I3 s, I3 pc, I3 tn, I3 (stc (dσ σ s) c k), I3 k, M p z' l) ∧ (k : Int) ≤ σ (83 + s) ∧ m = (σ (83 + s)).toNat - k ∧ (∀ c, c ≠ 190 → z' c = z c) ∧ ∀ j, z' 190 j = if 86 + 200 * (s : Int) ≤ j ∧ j < 86 + 200 * s + k then stv (σ j) (ste c (j - (86 + 200 * s))) else σ j) (fun m st hst => ?_) ⟨0, z, rfl, by omega, rfl, fun _ _ => rfl, fun j => by rw [hσ, if_neg (by omega)]⟩
  obtain ⟨k, z', rfl, hk, rfl, hF, hI⟩ := hst
  have e83 : z' 190 (83 + s) = σ (83 + s) := by rw [hI, if_neg (by omega)]
  unfold f_X12_distort_38_b
  by_cases hkx : (k : Int) < σ (83 + s)
  · have hd : z' 190 (86 + 200 * s + k) = dσ σ s k := by rw [hI, if_neg (by omega)]; rfl
    have key := m_ds69 (p := p) (z := z') (l := l) (s := s) (k := k) (pc := pc) (tn := tn) (cnt := stc (dσ σ s) c k) (c := c) (Q := LQ (fun r => ∃ z', r = (I3 (stc (dσ σ s) c (σ (83 + s)).toNat), M p z' l) ∧ (∀ k, k ≠ 190 → z' k = z k) ∧ ∀ j, z' 190 j = tσ σ s (dsT σ s c) j) (fun m st => ∃ (k : Nat) (z' : Nat → Int → Int), st = (189, I3 s, I3 pc, I3 tn, I3 (stc (dσ σ s) c k), I3 k, M p z' l) ∧ (k : Int) ≤ σ (83 + s) ∧ m = (σ (83 + s)).toNat - k ∧ (∀ c, c ≠ 190 → z' c = z c) ∧ ∀ j, z' 190 j = if 86 + 200 * (s : Int) ≤ j ∧ j < 86 + 200 * s + k then stv (σ j) (ste c (j - (86 + 200 * s))) else σ j) ((σ (83 + s)).toNat - k)) (by omega) (by omega) hcr.1 hcr.2 hd (ht.2 k (by omega) hkx) (by
      simp only [LQ_l]
      refine ⟨_, ?_, k + 1, _, by rw [stc, Int.natCast_add]; rfl, by omega, rfl, fun c hc => by rw [up_row hc]; exact hF c hc, fun j => ?_⟩
      · omega
      · by_cases hj : j = 86 + 200 * s + k
        · rw [hj, up_same, if_pos (by omega), show 86 + 200 * (s : Int) + k - (86 + 200 * s) = k by omega]; rfl
        · rw [up_col hj, hI j]
          by_cases hj2 : 86 + 200 * (s : Int) ≤ j ∧ j < 86 + 200 * s + k
          · rw [if_pos hj2, if_pos (by omega)]
          · rw [if_neg hj2, if_neg (by omega)])
    by_cases h1 : tn = 1
    · have hcc : c = -pc := by rw [hc]; unfold sgn; rw [if_neg (by omega)]
      rw [hcc] at key
      rw [hcc]
      simp (disch := first | assumption | omega) only [↓b_hid, bH_some, ↓hid_W, W_some, I3_a, I3_s, I3_m, I3_n, I3_l, I3_lt, I3_le, I3_e, I3_dv, I3_rm, I3_mx, I3_mn, I3_ab, cI, bI_0, bI_1, rZ_b, up_same, up_row, up_col, xr_some, LQ_r, LQ_l, Int.sub_self, Int.add_zero, Int.zero_add, Int.sub_zero, Int.neg_neg, not_true_eq_false, not_false_eq_true, Int.add_sub_cancel, ↓ite_iH, iH_t, iH_f, bH_iH, ↓bH_bind, xr_iH, ↓xr_bind, W_iH, WI_t, WI_f, gI_189, pI_189, iO_189, gR_189_0, aI_190, sI_190, gR_189_1, aI_191, sI_191, gR_189_3, aI_192, gR_189_10, aI_193, sI_193, gR_189_11, aI_194, sI_194, gR_189_13, aI_195, sI_195, gR_189_15, aI_196, sI_196, gR_189_17, aI_197, sI_197, gR_189_18, aI_198, sI_198, gR_189_19, aI_199, sI_199, gR_189_20, aI_200, sI_200, gR_189_23, aI_201, gR_189_24, aI_202, sI_202, gR_189_25, aI_203, sI_203, gR_189_29, aI_204, sI_204, gR_189_32, aI_205, sI_205, gR_189_35, aI_206, sI_206, pZ_189, gL_189, pL_189, e83, iH_pos, iH_neg, WI_pos, WI_neg]
      exact key
    · have hcc : c = pc := by rw [hc]; unfold sgn; rw [if_pos (by omega)]
      rw [hcc] at key
      rw [hcc]
      simp (disch := first | assumption | omega) only [↓b_hid, bH_some, ↓hid_W, W_some, I3_a, I3_s, I3_m, I3_n, I3_l, I3_lt, I3_le, I3_e, I3_dv, I3_rm, I3_mx, I3_mn, I3_ab, cI, bI_0, bI_1, rZ_b, up_same, up_row, up_col, xr_some, LQ_r, LQ_l, Int.sub_self, Int.add_zero, Int.zero_add, Int.sub_zero, Int.neg_neg, not_true_eq_false, not_false_eq_true, Int.add_sub_cancel, ↓ite_iH, iH_t, iH_f, bH_iH, ↓bH_bind, xr_iH, ↓xr_bind, W_iH, WI_t, WI_f, gI_189, pI_189, iO_189, gR_189_0, aI_190, sI_190, gR_189_1, aI_191, sI_191, gR_189_3, aI_192, gR_189_10, aI_193, sI_193, gR_189_11, aI_194, sI_194, gR_189_13, aI_195, sI_195, gR_189_15, aI_196, sI_196, gR_189_17, aI_197, sI_197, gR_189_18, aI_198, sI_198, gR_189_19, aI_199, sI_199, gR_189_20, aI_200, sI_200, gR_189_23, aI_201, gR_189_24, aI_202, sI_202, gR_189_25, aI_203, sI_203, gR_189_29, aI_204, sI_204, gR_189_32, aI_205, sI_205, gR_189_35, aI_206, sI_206, pZ_189, gL_189, pL_189, e83, iH_pos, iH_neg, WI_pos, WI_neg]
      exact key
  · have hkx' : (k : Int) = σ (83 + s) := by omega
    have e : (σ (83 + s)).toNat = k := by omega
    simp (disch := first | assumption | omega) only [↓b_hid, bH_some, ↓hid_W, W_some, I3_a, I3_s, I3_m, I3_n, I3_l, I3_lt, I3_le, I3_e, I3_dv, I3_rm, I3_mx, I3_mn, I3_ab, cI, bI_0, bI_1, rZ_b, up_same, up_row, up_col, xr_some, LQ_r, LQ_l, Int.sub_self, Int.add_zero, Int.zero_add, Int.sub_zero, Int.neg_neg, not_true_eq_false, not_false_eq_true, Int.add_sub_cancel, ↓ite_iH, iH_t, iH_f, bH_iH, ↓bH_bind, xr_iH, ↓xr_bind, W_iH, WI_t, WI_f, gI_189, pI_189, iO_189, gR_189_0, aI_190, sI_190, gR_189_1, aI_191, sI_191, gR_189_3, aI_192, gR_189_10, aI_193, sI_193, gR_189_11, aI_194, sI_194, gR_189_13, aI_195, sI_195, gR_189_15, aI_196, sI_196, gR_189_17, aI_197, sI_197, gR_189_18, aI_198, sI_198, gR_189_19, aI_199, sI_199, gR_189_20, aI_200, sI_200, gR_189_23, aI_201, gR_189_24, aI_202, sI_202, gR_189_25, aI_203, sI_203, gR_189_29, aI_204, sI_204, gR_189_32, aI_205, sI_205, gR_189_35, aI_206, sI_206, pZ_189, gL_189, pL_189, e83, f_X12_distort_164, iH_pos, iH_neg, WI_pos, WI_neg]
    refine ⟨z', by rw [e], hF, fun j => ?_⟩
    rw [hI j]
    unfold tσ dsT
    simp only
    by_cases hj : j = 83 + s
    · rw [if_pos hj, if_neg (by omega), hj]
    · rw [if_neg hj]
      by_cases hj2 : 86 + 200 * (s : Int) ≤ j ∧ j < 86 + 200 * s + σ (83 + s)
      · rw [if_pos hj2, if_pos (by omega)]
        unfold dσ
        rw [show 86 + 200 * (s : Int) + (j - (86 + 200 * s)) = j by omega]
      · rw [if_neg hj2, if_neg (by omega)]
end
set_option maxHeartbeats 4000000 in
theorem j_distort (a b d : Int32) : JT (f_X11_distort 0 a b d) (f_X12_distort 189 a b d) := by
  obtain ⟨s, hs, rfl⟩ := i3x a
  obtain ⟨c, hc, rfl⟩ := i3x b
  obtain ⟨w, hw, rfl⟩ := i3x d
  refine JT_c (fun σ => A_dist σ s c w) (fun _ => G_dist s c w) (fun σ => tσ σ s.toNat (dsT σ s.toNat (sgn w c))) (fun p z l σ n h hp hV hS h0 h6 hH => ?_) (fun p z l σ n hσ hV h2 h0 h6 => ?_)
  · unfold f_X11_distort A_dist G_dist
    by_cases h1 : 0 ≤ s ∧ s ≤ 2
    case neg =>
      simp only [if_neg h1]
      simp (disch := first | assumption | omega) only [↓b_hid, bH_some, ↓hid_W, W_some, I3_a, I3_s, I3_m, I3_n, I3_l, I3_lt, I3_le, I3_e, I3_dv, I3_rm, I3_mx, I3_mn, I3_ab, cI, bI_0, bI_1, rZ_b, up_same, up_row, up_col, xr_some, LQ_r, LQ_l, Int.sub_self, Int.add_zero, Int.zero_add, Int.sub_zero, Int.neg_neg, not_true_eq_false, not_false_eq_true, Int.add_sub_cancel, ↓ite_iH, iH_t, iH_f, bH_iH, ↓bH_bind, xr_iH, ↓xr_bind, W_iH, WI_t, WI_f, g_isSlot, bI_f, iH_pos, iH_neg, WI_pos, WI_neg]
      exact ⟨p, z, l, rfl, Or.inr ⟨fun hg => h1 hg.1, rfl, FrX_r z⟩⟩
    by_cases h3 : 0 ≤ c ∧ c ≤ 30
    case neg =>
      simp only [if_pos h1, if_neg h3]
      simp (disch := first | assumption | omega) only [↓b_hid, bH_some, ↓hid_W, W_some, I3_a, I3_s, I3_m, I3_n, I3_l, I3_lt, I3_le, I3_e, I3_dv, I3_rm, I3_mx, I3_mn, I3_ab, cI, bI_0, bI_1, rZ_b, up_same, up_row, up_col, xr_some, LQ_r, LQ_l, Int.sub_self, Int.add_zero, Int.zero_add, Int.sub_zero, Int.neg_neg, not_true_eq_false, not_false_eq_true, Int.add_sub_cancel, ↓ite_iH, iH_t, iH_f, bH_iH, ↓bH_bind, xr_iH, ↓xr_bind, W_iH, WI_t, WI_f, g_isSlot, bI_t, g_inRange, bI_f, iH_pos, iH_neg, WI_pos, WI_neg]
      exact ⟨p, z, l, rfl, Or.inr ⟨fun hg => h3 hg.2.1, rfl, FrX_r z⟩⟩
    by_cases h4 : 0 ≤ w ∧ w ≤ 1
    case neg =>
      simp only [if_pos h1, if_pos h3, if_neg h4]
      simp (disch := first | assumption | omega) only [↓b_hid, bH_some, ↓hid_W, W_some, I3_a, I3_s, I3_m, I3_n, I3_l, I3_lt, I3_le, I3_e, I3_dv, I3_rm, I3_mx, I3_mn, I3_ab, cI, bI_0, bI_1, rZ_b, up_same, up_row, up_col, xr_some, LQ_r, LQ_l, Int.sub_self, Int.add_zero, Int.zero_add, Int.sub_zero, Int.neg_neg, not_true_eq_false, not_false_eq_true, Int.add_sub_cancel, ↓ite_iH, iH_t, iH_f, bH_iH, ↓bH_bind, xr_iH, ↓xr_bind, W_iH, WI_t, WI_f, g_isSlot, bI_t, g_inRange, bI_f, iH_pos, iH_neg, WI_pos, WI_neg]
      exact ⟨p, z, l, rfl, Or.inr ⟨fun hg => h4 hg.2.2, rfl, FrX_r z⟩⟩
    simp only [if_pos h1, if_pos h3, if_pos h4]
    have hss : s = ((s.toNat : Nat) : Int) := by omega
    have hs3 : s.toNat < 3 := by omega
    simp (disch := first | assumption | omega) only [↓b_hid, bH_some, ↓hid_W, W_some, I3_a, I3_s, I3_m, I3_n, I3_l, I3_lt, I3_le, I3_e, I3_dv, I3_rm, I3_mx, I3_mn, I3_ab, cI, bI_0, bI_1, rZ_b, up_same, up_row, up_col, xr_some, LQ_r, LQ_l, Int.sub_self, Int.add_zero, Int.zero_add, Int.sub_zero, Int.neg_neg, not_true_eq_false, not_false_eq_true, Int.add_sub_cancel, ↓ite_iH, iH_t, iH_f, bH_iH, ↓bH_bind, xr_iH, ↓xr_bind, W_iH, WI_t, WI_f, aR_34, aR_19, sR_19, gR_0_0, pR_0, gI_0, pI_0, iO_0, gR_0_1, gR_0_3, gR_0_4, gR_0_5, gR_0_6, gR_0_7, gR_0_8, gR_0_9, gR_0_10, gR_0_11, g_isSlot, bI_t, g_inRange, iO_0, iH_pos, iH_neg, WI_pos, WI_neg]
    generalize s.toNat = sn at *
    subst hss
    refine W_bH (W_imp (c_save hp hV hS h0 h6 hH) ?_)
    rintro _ ⟨p', z', rfl, a0, a1, a2⟩
    have hb := a1.1.1 0 (by omega)
    have hrB := isB_r hb
    have hT := isT_B hb hs3
    have hTr := a1.2.1.2.2 sn hs3
    have ht := σ_tr hV hs3
    have hcr : -30 ≤ sgn w c ∧ sgn w c ≤ 30 := by unfold sgn; split <;> omega
    have e1 : z' (p' 0 + 12 + 2 * sn) 1 = σ (83 + sn) := hTr.1
    have e2 : ∀ i : Int, 0 ≤ i → i < σ (83 + sn) → z' (p' 0 + 12 + 2 * sn + 1) i = dσ σ sn i := hTr.2
    have gS := g_stretch (p := p') (z := z') (l := l) (t := p' 0 + 12 + 2 * sn) (c := sgn w c) hT (by omega) (by omega) hcr.1 hcr.2 (fun i i0 i1 => by rw [e2 i i0 (by omega)]; exact ht.2 i i0 (by omega))
    rw [e1, stc_c (d' := dσ σ sn) _ _ (fun i i0 i1 => e2 i i0 (by omega))] at gS
    have hfin : CX p z n h σ (tσ σ sn (dsT σ sn (sgn w c))) p' (stz z' (p' 0 + 12 + 2 * sn) (sgn w c) (σ (83 + sn))) := by
      refine CX_mod ⟨h0, h6⟩ a1 (fun k hk _ => ?_) (St_t hs3 (Gd_dsT hV hs3).1 hV a1.2.1 (fun k k0 k1 => ?_) ⟨?_, fun i i0 i1 => ?_⟩)
      · funext j; unfold stz; rw [if_neg (by omega)]
      · funext j; unfold stz; rw [if_neg (by omega)]
      · unfold stz; rw [if_neg (by omega)]; exact e1
      · have i1 : i < σ (83 + sn) := i1
        unfold stz; rw [if_pos ⟨rfl, i0, i1⟩, e2 i i0 i1]; rfl
    have gT := g_trAt (p := p') (z := z') (l := l) (i := (sn : Int)) hb (by omega) (by omega)
    rw [Int.toNat_natCast] at gT
    generalize p' 0 + 12 + 2 * sn = t at *
    by_cases hw0 : w = 0
    · have hsg : sgn w c = c := by unfold sgn; rw [if_pos hw0]
      rw [hsg] at gS hfin ⊢
      simp (disch := first | assumption | omega) only [↓b_hid, bH_some, ↓hid_W, W_some, I3_a, I3_s, I3_m, I3_n, I3_l, I3_lt, I3_le, I3_e, I3_dv, I3_rm, I3_mx, I3_mn, I3_ab, cI, bI_0, bI_1, rZ_b, up_same, up_row, up_col, xr_some, LQ_r, LQ_l, Int.sub_self, Int.add_zero, Int.zero_add, Int.sub_zero, Int.neg_neg, not_true_eq_false, not_false_eq_true, Int.add_sub_cancel, ↓ite_iH, iH_t, iH_f, bH_iH, ↓bH_bind, xr_iH, ↓xr_bind, W_iH, WI_t, WI_f, aR_34, aR_19, sR_19, gR_0_0, pR_0, gI_0, pI_0, iO_0, gR_0_1, gR_0_3, gR_0_4, gR_0_5, gR_0_6, gR_0_7, gR_0_8, gR_0_9, gR_0_10, gR_0_11, gI_B, pI_B, iO_B, gR_B0, gR_B1, aR_B, gT, f_X11_distort_50, iO_T hT, gS, iH_pos, iH_neg, WI_pos, WI_neg]
      exact ⟨p', _, l, rfl, Or.inl ⟨⟨h1, h3, h4⟩, hfin⟩⟩
    · have hsg : sgn w c = -c := by unfold sgn; rw [if_neg hw0]
      rw [hsg] at gS hfin ⊢
      simp (disch := first | assumption | omega) only [↓b_hid, bH_some, ↓hid_W, W_some, I3_a, I3_s, I3_m, I3_n, I3_l, I3_lt, I3_le, I3_e, I3_dv, I3_rm, I3_mx, I3_mn, I3_ab, cI, bI_0, bI_1, rZ_b, up_same, up_row, up_col, xr_some, LQ_r, LQ_l, Int.sub_self, Int.add_zero, Int.zero_add, Int.sub_zero, Int.neg_neg, not_true_eq_false, not_false_eq_true, Int.add_sub_cancel, ↓ite_iH, iH_t, iH_f, bH_iH, ↓bH_bind, xr_iH, ↓xr_bind, W_iH, WI_t, WI_f, aR_34, aR_19, sR_19, gR_0_0, pR_0, gI_0, pI_0, iO_0, gR_0_1, gR_0_3, gR_0_4, gR_0_5, gR_0_6, gR_0_7, gR_0_8, gR_0_9, gR_0_10, gR_0_11, gI_B, pI_B, iO_B, gR_B0, gR_B1, aR_B, gT, f_X11_distort_50, iO_T hT, gS, iH_pos, iH_neg, WI_pos, WI_neg]
      exact ⟨p', _, l, rfl, Or.inl ⟨⟨h1, h3, h4⟩, hfin⟩⟩
  · unfold f_X12_distort A_dist G_dist
    by_cases h1 : 0 ≤ s ∧ s ≤ 2
    case neg =>
      simp only [if_neg h1]
      simp (disch := first | assumption | omega) only [↓b_hid, bH_some, ↓hid_W, W_some, I3_a, I3_s, I3_m, I3_n, I3_l, I3_lt, I3_le, I3_e, I3_dv, I3_rm, I3_mx, I3_mn, I3_ab, cI, bI_0, bI_1, rZ_b, up_same, up_row, up_col, xr_some, LQ_r, LQ_l, Int.sub_self, Int.add_zero, Int.zero_add, Int.sub_zero, Int.neg_neg, not_true_eq_false, not_false_eq_true, Int.add_sub_cancel, ↓ite_iH, iH_t, iH_f, bH_iH, ↓bH_bind, xr_iH, ↓xr_bind, W_iH, WI_t, WI_f, m_isSlot, bI_f, iH_pos, iH_neg, WI_pos, WI_neg]
      exact ⟨z, l, rfl, Or.inr ⟨fun hg => h1 hg.1, FrQ_r z⟩⟩
    by_cases h3 : 0 ≤ c ∧ c ≤ 30
    case neg =>
      simp only [if_pos h1, if_neg h3]
      simp (disch := first | assumption | omega) only [↓b_hid, bH_some, ↓hid_W, W_some, I3_a, I3_s, I3_m, I3_n, I3_l, I3_lt, I3_le, I3_e, I3_dv, I3_rm, I3_mx, I3_mn, I3_ab, cI, bI_0, bI_1, rZ_b, up_same, up_row, up_col, xr_some, LQ_r, LQ_l, Int.sub_self, Int.add_zero, Int.zero_add, Int.sub_zero, Int.neg_neg, not_true_eq_false, not_false_eq_true, Int.add_sub_cancel, ↓ite_iH, iH_t, iH_f, bH_iH, ↓bH_bind, xr_iH, ↓xr_bind, W_iH, WI_t, WI_f, m_isSlot, bI_t, m_in, bI_f, iH_pos, iH_neg, WI_pos, WI_neg]
      exact ⟨z, l, rfl, Or.inr ⟨fun hg => h3 hg.2.1, FrQ_r z⟩⟩
    by_cases h4 : 0 ≤ w ∧ w ≤ 1
    case neg =>
      simp only [if_pos h1, if_pos h3, if_neg h4]
      simp (disch := first | assumption | omega) only [↓b_hid, bH_some, ↓hid_W, W_some, I3_a, I3_s, I3_m, I3_n, I3_l, I3_lt, I3_le, I3_e, I3_dv, I3_rm, I3_mx, I3_mn, I3_ab, cI, bI_0, bI_1, rZ_b, up_same, up_row, up_col, xr_some, LQ_r, LQ_l, Int.sub_self, Int.add_zero, Int.zero_add, Int.sub_zero, Int.neg_neg, not_true_eq_false, not_false_eq_true, Int.add_sub_cancel, ↓ite_iH, iH_t, iH_f, bH_iH, ↓bH_bind, xr_iH, ↓xr_bind, W_iH, WI_t, WI_f, m_isSlot, bI_t, m_in, bI_f, iH_pos, iH_neg, WI_pos, WI_neg]
      exact ⟨z, l, rfl, Or.inr ⟨fun hg => h4 hg.2.2, FrQ_r z⟩⟩
    simp only [if_pos h1, if_pos h3, if_pos h4]
    have hss : s = ((s.toNat : Nat) : Int) := by omega
    have hs3 : s.toNat < 3 := by omega
    simp (disch := first | assumption | omega) only [↓b_hid, bH_some, ↓hid_W, W_some, I3_a, I3_s, I3_m, I3_n, I3_l, I3_lt, I3_le, I3_e, I3_dv, I3_rm, I3_mx, I3_mn, I3_ab, cI, bI_0, bI_1, rZ_b, up_same, up_row, up_col, xr_some, LQ_r, LQ_l, Int.sub_self, Int.add_zero, Int.zero_add, Int.sub_zero, Int.neg_neg, not_true_eq_false, not_false_eq_true, Int.add_sub_cancel, ↓ite_iH, iH_t, iH_f, bH_iH, ↓bH_bind, xr_iH, ↓xr_bind, W_iH, WI_t, WI_f, gI_189, pI_189, iO_189, gR_189_0, aI_190, sI_190, gR_189_1, aI_191, sI_191, gR_189_3, aI_192, gR_189_10, aI_193, sI_193, gR_189_11, aI_194, sI_194, gR_189_13, aI_195, sI_195, gR_189_15, aI_196, sI_196, gR_189_17, aI_197, sI_197, gR_189_18, aI_198, sI_198, gR_189_19, aI_199, sI_199, gR_189_20, aI_200, sI_200, gR_189_23, aI_201, gR_189_24, aI_202, sI_202, gR_189_25, aI_203, sI_203, gR_189_29, aI_204, sI_204, gR_189_32, aI_205, sI_205, gR_189_35, aI_206, sI_206, pZ_189, gL_189, pL_189, m_isSlot, bI_t, m_in, iH_pos, iH_neg, WI_pos, WI_neg]
    generalize s.toNat = sn at *
    subst hss
    refine W_bH (W_imp (m_noteC hσ hV h2 h0 h6) ?_)
    rintro _ ⟨z1, rfl, a1, a2, a3⟩
    simp (disch := first | assumption | omega) only [↓b_hid, bH_some, ↓hid_W, W_some, I3_a, I3_s, I3_m, I3_n, I3_l, I3_lt, I3_le, I3_e, I3_dv, I3_rm, I3_mx, I3_mn, I3_ab, cI, bI_0, bI_1, rZ_b, up_same, up_row, up_col, xr_some, LQ_r, LQ_l, Int.sub_self, Int.add_zero, Int.zero_add, Int.sub_zero, Int.neg_neg, not_true_eq_false, not_false_eq_true, Int.add_sub_cancel, ↓ite_iH, iH_t, iH_f, bH_iH, ↓bH_bind, xr_iH, ↓xr_bind, W_iH, WI_t, WI_f]
    refine W_imp (m_ds38 (s := sn) (c := sgn w c) (n := n) hs3 hV a1 h3 h4 rfl) ?_
    rintro _ ⟨z2, rfl, b1, b2⟩
    exact ⟨z2, l, rfl, Or.inl ⟨⟨h1, h3, h4⟩, CMo_mod a2 b1 (V_t hs3 (Gd_dsT hV hs3) hV) (fun j _ _ => b2 j)⟩⟩
