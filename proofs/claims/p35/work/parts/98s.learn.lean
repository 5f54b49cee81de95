/-! learn(): both sides. -/
theorem hmean_r {n gap : Int} {d : Int → Int} (h0 : 0 < n) (h1 : n ≤ 200) (hd : ∀ i, 0 ≤ i → i < n → 1 ≤ d i ∧ d i ≤ 60000) (h5 : 5 ≤ (gl (FS d n gap) 0).2) {pl : Int} (p0 : 0 ≤ pl) (p1 : pl < 5) : 0 ≤ hmean d (FS d n gap) pl ∧ hmean d (FS d n gap) pl ≤ 60000 := by
  have s0 := hsum_r (show 0 ≤ n by omega) hd h5 p0 p1 (FS d n gap).length (Nat.le_refl _)
  have hpos := FS_pos (d := d) (gap := gap) h0 h1
  have hc := s0.2.2.2.2 hpos
  unfold hmean
  exact ⟨Int.ediv_nonneg s0.1 s0.2.2.1, Int.ediv_le_of_le_mul (by omega) s0.2.1⟩
theorem rZ_0 (μ : MS) : rZ (I3 0) μ = some (I3 0, μ) := by have := rZ_b False μ; rw [bI_f (by decide)] at this; exact this
theorem rZ_1 (μ : MS) : rZ (I3 1) μ = some (I3 1, μ) := by have := rZ_b True μ; rw [bI_t trivial] at this; exact this
abbrev LT : Type := Int × Int × Int × Int × Int
def lnK (m : Int) (A B : List Int) : LT := if A.length = 1 then (0, (m - 3) / 2, lf A 0, lf B 0, lf B 1) else (1, (m - 1) / 2, lf B 0, lf A 0, lf A 1)
def lnC (A B : List Int) : Prop := A.length = 1 ∧ B.length = 2 ∨ A.length = 2 ∧ B.length = 1
def lnT (h s : Int) (K : LT) : Prop := K.2.1 ≤ 16 ∧ lensOk K.1 h s K.2.2.1 K.2.2.2.1 K.2.2.2.2
def lnOk (m h s : Int) (A B : List Int) : Prop := lnC A B ∧ lnT h s (lnK m A B)
def lR (A : List Int) : Prop := ∀ v ∈ A, 0 ≤ v ∧ v ≤ 60000
theorem lR_r {A : List Int} (h : lR A) {i : Int} (h0 : 0 ≤ i) (h1 : i < A.length) : 0 ≤ lf A i ∧ lf A i ≤ 60000 := h _ (lf_mem h0 h1)
/-- what the learner has -/
def lnF (z : Nat → Int → Int) (h s : Int) (K : LT) : Prop := z 47 3 = h ∧ z 47 4 = s ∧ z 47 5 = K.1 ∧ z 47 6 = K.2.1 ∧ z 47 7 = K.2.2.1 ∧ z 47 8 = K.2.2.2.1 ∧ z 47 9 = K.2.2.2.2
section
variable {p : Nat → Nat} {z l : Nat → Int → Int}
set_option maxHeartbeats 4000000 in
theorem w_make {f g : Nat} {k bi a b c h s : Int} (hf : isC f) (hg : isC g) (e0 : z f 3 = a) (e1 : z g 3 = b) (e2 : z g 4 = c) (e3 : z 47 3 = h) (e4 : z 47 4 = s) (hk : k = 0 ∨ k = 1) (hb : 0 ≤ bi ∧ bi ≤ 200) (ra : 0 ≤ a ∧ a ≤ 60000) (rb : 0 ≤ b ∧ b ≤ 60000) (rc : 0 ≤ c ∧ c ≤ 60000) (rh : 0 ≤ h ∧ h ≤ 60000) (rs : 0 ≤ s ∧ s ≤ 60000) : WP (f_X4_makeProtocol 47 (I3 k) (I3 bi) f g (M p z l)) (fun r => ∃ v z', r = (I3 v, M p z' l) ∧ (∀ c, c ≠ 47 → z' c = z c) ∧ lnF z' h s (k, bi, a, b, c) ∧ (v = 1 ∧ lnT h s (k, bi, a, b, c) ∨ v = 0 ∧ ¬lnT h s (k, bi, a, b, c))) := by
  have hf7 : f ≠ 47 := by unfold isC at hf; omega
  have hg7 : g ≠ 47 := by unfold isC at hg; omega
  unfold f_X4_makeProtocol
  by_cases hb1 : bi ≤ 16
  case neg =>
    simp (disch := first | assumption | omega) only [↓b_hid, bH_some, ↓hid_W, W_some, I3_a, I3_s, I3_m, I3_n, I3_l, I3_lt, I3_le, I3_e, I3_dv, I3_rm, I3_mx, I3_mn, I3_ab, cI, bI_0, bI_1, rZ_b, up_same, up_row, up_col, xr_some, LQ_r, LQ_l, Int.sub_self, Int.add_zero, Int.zero_add, Int.sub_zero, Int.neg_neg, not_true_eq_false, not_false_eq_true, Int.add_sub_cancel, ↓ite_iH, iH_t, iH_f, bH_iH, ↓bH_bind, xr_iH, ↓xr_bind, W_iH, WI_t, WI_f, gI_47, pI_47, iO_47, gR_47_0, gR_47_1, gI_C hf, gI_C hg, up_row, e0, e1, e2, iH_pos, iH_neg, WI_pos, WI_neg]
    refine ⟨0, _, rfl, fun c hc => ?_, ?_, Or.inr ⟨rfl, fun hh => hb1 hh.1⟩⟩
    · simp (disch := omega) only [up_row]
    · unfold lnF; refine ⟨?_, ?_, ?_, ?_, ?_, ?_, ?_⟩ <;> simp (disch := omega) only [up_col, up_same, e3, e4]
  by_cases hl : lensOk k h s a b c
  · have gl := fun μ => g_lens_t (μ := μ) (show -2147483648 ≤ k ∧ k < 2147483648 by omega) hl
    simp (disch := first | assumption | omega) only [↓b_hid, bH_some, ↓hid_W, W_some, I3_a, I3_s, I3_m, I3_n, I3_l, I3_lt, I3_le, I3_e, I3_dv, I3_rm, I3_mx, I3_mn, I3_ab, cI, bI_0, bI_1, rZ_b, up_same, up_row, up_col, xr_some, LQ_r, LQ_l, Int.sub_self, Int.add_zero, Int.zero_add, Int.sub_zero, Int.neg_neg, not_true_eq_false, not_false_eq_true, Int.add_sub_cancel, ↓ite_iH, iH_t, iH_f, bH_iH, ↓bH_bind, xr_iH, ↓xr_bind, W_iH, WI_t, WI_f, gI_47, pI_47, iO_47, gR_47_0, gR_47_1, gI_C hf, gI_C hg, up_row, e0, e1, e2, e3, e4, gl, iH_pos, iH_neg, WI_pos, WI_neg]
    refine ⟨1, _, rfl, fun c hc => ?_, ?_, Or.inl ⟨rfl, hb1, hl⟩⟩
    · simp (disch := omega) only [up_row]
    · unfold lnF; refine ⟨?_, ?_, ?_, ?_, ?_, ?_, ?_⟩ <;> simp (disch := omega) only [up_col, up_same, e3, e4]
  · have gl := fun μ => g_lens_f (μ := μ) (show -2147483648 ≤ k ∧ k < 2147483648 by omega) (show -2147483648 ≤ h ∧ h < 2147483648 by omega) (show -2147483648 ≤ s ∧ s < 2147483648 by omega) (show -2147483648 ≤ a ∧ a < 2147483648 by omega) (show -2147483648 ≤ b ∧ b < 2147483648 by omega) (show -2147483648 ≤ c ∧ c < 2147483648 by omega) hl
    simp (disch := first | assumption | omega) only [↓b_hid, bH_some, ↓hid_W, W_some, I3_a, I3_s, I3_m, I3_n, I3_l, I3_lt, I3_le, I3_e, I3_dv, I3_rm, I3_mx, I3_mn, I3_ab, cI, bI_0, bI_1, rZ_b, up_same, up_row, up_col, xr_some, LQ_r, LQ_l, Int.sub_self, Int.add_zero, Int.zero_add, Int.sub_zero, Int.neg_neg, not_true_eq_false, not_false_eq_true, Int.add_sub_cancel, ↓ite_iH, iH_t, iH_f, bH_iH, ↓bH_bind, xr_iH, ↓xr_bind, W_iH, WI_t, WI_f, gI_47, pI_47, iO_47, gR_47_0, gR_47_1, gI_C hf, gI_C hg, up_row, e0, e1, e2, e3, e4, gl, iH_pos, iH_neg, WI_pos, WI_neg]
    refine ⟨0, _, rfl, fun c hc => ?_, ?_, Or.inr ⟨rfl, fun hh => hl hh.2⟩⟩
    · simp (disch := omega) only [up_row]
    · unfold lnF; refine ⟨?_, ?_, ?_, ?_, ?_, ?_, ?_⟩ <;> simp (disch := omega) only [up_col, up_same, e3, e4]
set_option maxHeartbeats 4000000 in
theorem w_conclude {m h s : Int} {A B : List Int} (hA : Cc z 48 A) (hB : Cc z 50 B) (lA : A.length ≤ 200) (lB : B.length ≤ 200) (rA : lR A) (rB : lR B) (e2 : z 47 2 = m) (hm : 5 ≤ m ∧ m ≤ 200) (e3 : z 47 3 = h) (e4 : z 47 4 = s) (rh : 0 ≤ h ∧ h ≤ 60000) (rs : 0 ≤ s ∧ s ≤ 60000) : WP (f_X4_conclude 47 (M p z l)) (fun r => ∃ v z', r = (I3 v, M p z' l) ∧ (∀ c, c ≠ 47 → z' c = z c) ∧ (v = 1 ∧ lnOk m h s A B ∧ lnF z' h s (lnK m A B) ∨ v = 0 ∧ ¬lnOk m h s A B)) := by
  have h48 : isC 48 := Or.inl rfl
  have h50 : isC 50 := Or.inr rfl
  have eA := hA.1
  have eB := hB.1
  unfold f_X4_conclude
  by_cases h1 : A.length = 1
  · have eA1 : z 48 2 = 1 := by omega
    by_cases h2 : B.length = 2
    · have eB2 : z 50 2 = 2 := by omega
      have q1 := hA.2.1 (by omega)
      have q2 := hB.2.1 (by omega)
      have q3 := hB.2.2 (by omega)
      have hw := w_make (p := p) (l := l) (k := 0) (bi := (m - 3) / 2) h48 h50 q1 q2 q3 e3 e4 (Or.inl rfl) (by omega) (lR_r rA (by omega) (by omega)) (lR_r rB (by omega) (by omega)) (lR_r rB (by omega) (by omega)) rh rs
      have hC : lnC A B := Or.inl ⟨h1, h2⟩
      have hK : lnK m A B = (0, (m - 3) / 2, lf A 0, lf B 0, lf B 1) := by unfold lnK; rw [if_pos h1]
      rw [← hK] at hw
      simp (disch := first | assumption | omega) only [↓b_hid, bH_some, ↓hid_W, W_some, I3_a, I3_s, I3_m, I3_n, I3_l, I3_lt, I3_le, I3_e, I3_dv, I3_rm, I3_mx, I3_mn, I3_ab, cI, bI_0, bI_1, rZ_b, up_same, up_row, up_col, xr_some, LQ_r, LQ_l, Int.sub_self, Int.add_zero, Int.zero_add, Int.sub_zero, Int.neg_neg, not_true_eq_false, not_false_eq_true, Int.add_sub_cancel, ↓ite_iH, iH_t, iH_f, bH_iH, ↓bH_bind, xr_iH, ↓xr_bind, W_iH, WI_t, WI_f, gI_47, pI_47, iO_47, gR_47_0, gR_47_1, gR_47_0, gR_47_1, gI_48, gI_50, eA1, eB2, e2, iO_47, iH_pos, iH_neg, WI_pos, WI_neg]
      refine W_bH (W_imp hw ?_)
      rintro _ ⟨v, z', rfl, b1, b2, ⟨rfl, b3⟩ | ⟨rfl, b3⟩⟩
      · simp (disch := first | assumption | omega) only [↓b_hid, bH_some, ↓hid_W, W_some, I3_a, I3_s, I3_m, I3_n, I3_l, I3_lt, I3_le, I3_e, I3_dv, I3_rm, I3_mx, I3_mn, I3_ab, cI, bI_0, bI_1, rZ_b, up_same, up_row, up_col, xr_some, LQ_r, LQ_l, Int.sub_self, Int.add_zero, Int.zero_add, Int.sub_zero, Int.neg_neg, not_true_eq_false, not_false_eq_true, Int.add_sub_cancel, ↓ite_iH, iH_t, iH_f, bH_iH, ↓bH_bind, xr_iH, ↓xr_bind, W_iH, WI_t, WI_f, rZ_1]
        exact ⟨1, z', rfl, b1, Or.inl ⟨rfl, ⟨hC, b3⟩, b2⟩⟩
      · simp (disch := first | assumption | omega) only [↓b_hid, bH_some, ↓hid_W, W_some, I3_a, I3_s, I3_m, I3_n, I3_l, I3_lt, I3_le, I3_e, I3_dv, I3_rm, I3_mx, I3_mn, I3_ab, cI, bI_0, bI_1, rZ_b, up_same, up_row, up_col, xr_some, LQ_r, LQ_l, Int.sub_self, Int.add_zero, Int.zero_add, Int.sub_zero, Int.neg_neg, not_true_eq_false, not_false_eq_true, Int.add_sub_cancel, ↓ite_iH, iH_t, iH_f, bH_iH, ↓bH_bind, xr_iH, ↓xr_bind, W_iH, WI_t, WI_f, rZ_0]
        exact ⟨0, z', rfl, b1, Or.inr ⟨rfl, fun hh => b3 hh.2⟩⟩
    · have hC : ¬lnC A B := by unfold lnC; omega
      simp (disch := first | assumption | omega) only [↓b_hid, bH_some, ↓hid_W, W_some, I3_a, I3_s, I3_m, I3_n, I3_l, I3_lt, I3_le, I3_e, I3_dv, I3_rm, I3_mx, I3_mn, I3_ab, cI, bI_0, bI_1, rZ_b, up_same, up_row, up_col, xr_some, LQ_r, LQ_l, Int.sub_self, Int.add_zero, Int.zero_add, Int.sub_zero, Int.neg_neg, not_true_eq_false, not_false_eq_true, Int.add_sub_cancel, ↓ite_iH, iH_t, iH_f, bH_iH, ↓bH_bind, xr_iH, ↓xr_bind, W_iH, WI_t, WI_f, gI_47, pI_47, iO_47, gR_47_0, gR_47_1, gR_47_0, gR_47_1, gI_48, gI_50, eA1, eB, f_X4_conclude_44, iH_pos, iH_neg, WI_pos, WI_neg]
      exact ⟨0, z, rfl, fun c _ => rfl, Or.inr ⟨rfl, fun hh => hC hh.1⟩⟩
  · by_cases h2 : A.length = 2
    · have eA1 : z 48 2 = 2 := by omega
      by_cases h3 : B.length = 1
      · have eB2 : z 50 2 = 1 := by omega
        have q1 := hB.2.1 (by omega)
        have q2 := hA.2.1 (by omega)
        have q3 := hA.2.2 (by omega)
        have hw := w_make (p := p) (l := l) (k := 1) (bi := (m - 1) / 2) h50 h48 q1 q2 q3 e3 e4 (Or.inr rfl) (by omega) (lR_r rB (by omega) (by omega)) (lR_r rA (by omega) (by omega)) (lR_r rA (by omega) (by omega)) rh rs
        have hC : lnC A B := Or.inr ⟨h2, h3⟩
        have hK : lnK m A B = (1, (m - 1) / 2, lf B 0, lf A 0, lf A 1) := by unfold lnK; rw [if_neg h1]
        rw [← hK] at hw
        simp (disch := first | assumption | omega) only [↓b_hid, bH_some, ↓hid_W, W_some, I3_a, I3_s, I3_m, I3_n, I3_l, I3_lt, I3_le, I3_e, I3_dv, I3_rm, I3_mx, I3_mn, I3_ab, cI, bI_0, bI_1, rZ_b, up_same, up_row, up_col, xr_some, LQ_r, LQ_l, Int.sub_self, Int.add_zero, Int.zero_add, Int.sub_zero, Int.neg_neg, not_true_eq_false, not_false_eq_true, Int.add_sub_cancel, ↓ite_iH, iH_t, iH_f, bH_iH, ↓bH_bind, xr_iH, ↓xr_bind, W_iH, WI_t, WI_f, gI_47, pI_47, iO_47, gR_47_0, gR_47_1, gR_47_0, gR_47_1, gI_48, gI_50, eA1, eB2, e2, iO_47, f_X4_conclude_44, iH_pos, iH_neg, WI_pos, WI_neg]
        refine W_bH (W_imp hw ?_)
        rintro _ ⟨v, z', rfl, b1, b2, ⟨rfl, b3⟩ | ⟨rfl, b3⟩⟩
        · simp (disch := first | assumption | omega) only [↓b_hid, bH_some, ↓hid_W, W_some, I3_a, I3_s, I3_m, I3_n, I3_l, I3_lt, I3_le, I3_e, I3_dv, I3_rm, I3_mx, I3_mn, I3_ab, cI, bI_0, bI_1, rZ_b, up_same, up_row, up_col, xr_some, LQ_r, LQ_l, Int.sub_self, Int.add_zero, Int.zero_add, Int.sub_zero, Int.neg_neg, not_true_eq_false, not_false_eq_true, Int.add_sub_cancel, ↓ite_iH, iH_t, iH_f, bH_iH, ↓bH_bind, xr_iH, ↓xr_bind, W_iH, WI_t, WI_f, rZ_1]
          exact ⟨1, z', rfl, b1, Or.inl ⟨rfl, ⟨hC, b3⟩, b2⟩⟩
        · simp (disch := first | assumption | omega) only [↓b_hid, bH_some, ↓hid_W, W_some, I3_a, I3_s, I3_m, I3_n, I3_l, I3_lt, I3_le, I3_e, I3_dv, I3_rm, I3_mx, I3_mn, I3_ab, cI, bI_0, bI_1, rZ_b, up_same, up_row, up_col, xr_some, LQ_r, LQ_l, Int.sub_self, Int.add_zero, Int.zero_add, Int.sub_zero, Int.neg_neg, not_true_eq_false, not_false_eq_true, Int.add_sub_cancel, ↓ite_iH, iH_t, iH_f, bH_iH, ↓bH_bind, xr_iH, ↓xr_bind, W_iH, WI_t, WI_f, rZ_0]
          exact ⟨0, z', rfl, b1, Or.inr ⟨rfl, fun hh => b3 hh.2⟩⟩
      · have hC : ¬lnC A B := by unfold lnC; omega
        simp (disch := first | assumption | omega) only [↓b_hid, bH_some, ↓hid_W, W_some, I3_a, I3_s, I3_m, I3_n, I3_l, I3_lt, I3_le, I3_e, I3_dv, I3_rm, I3_mx, I3_mn, I3_ab, cI, bI_0, bI_1, rZ_b, up_same, up_row, up_col, xr_some, LQ_r, LQ_l, Int.sub_self, Int.add_zero, Int.zero_add, Int.sub_zero, Int.neg_neg, not_true_eq_false, not_false_eq_true, Int.add_sub_cancel, ↓ite_iH, iH_t, iH_f, bH_iH, ↓bH_bind, xr_iH, ↓xr_bind, W_iH, WI_t, WI_f, gI_47, pI_47, iO_47, gR_47_0, gR_47_1, gR_47_0, gR_47_1, gI_48, gI_50, eA1, eB, f_X4_conclude_44, iH_pos, iH_neg, WI_pos, WI_neg]
        exact ⟨0, z, rfl, fun c _ => rfl, Or.inr ⟨rfl, fun hh => hC hh.1⟩⟩
    · have hC : ¬lnC A B := by unfold lnC; omega
      simp (disch := first | assumption | omega) only [↓b_hid, bH_some, ↓hid_W, W_some, I3_a, I3_s, I3_m, I3_n, I3_l, I3_lt, I3_le, I3_e, I3_dv, I3_rm, I3_mx, I3_mn, I3_ab, cI, bI_0, bI_1, rZ_b, up_same, up_row, up_col, xr_some, LQ_r, LQ_l, Int.sub_self, Int.add_zero, Int.zero_add, Int.sub_zero, Int.neg_neg, not_true_eq_false, not_false_eq_true, Int.add_sub_cancel, ↓ite_iH, iH_t, iH_f, bH_iH, ↓bH_bind, xr_iH, ↓xr_bind, W_iH, WI_t, WI_f, gI_47, pI_47, iO_47, gR_47_0, gR_47_1, gR_47_0, gR_47_1, gI_48, gI_50, eA, eB, f_X4_conclude_44, iH_pos, iH_neg, WI_pos, WI_neg]
      exact ⟨0, z, rfl, fun c _ => rfl, Or.inr ⟨rfl, fun hh => hC hh.1⟩⟩
end
/-- learned -/
def lnM (σ : Int → Int) (s : Nat) : Int := (gl (Lσ σ s) 0).2
def lnH (σ : Int → Int) (s : Nat) : Int := hmean (dσ σ s) (Lσ σ s) 0
def lnS (σ : Int → Int) (s : Nat) : Int := hmean (dσ σ s) (Lσ σ s) 1
def lnG (σ : Int → Int) (s : Nat) : LT := lnK (lnM σ s) (lcl σ s 0) (lcl σ s 1)
def lnO (σ : Int → Int) (s : Nat) : Prop := lnOk (lnM σ s) (lnH σ s) (lnS σ s) (lcl σ s 0) (lcl σ s 1)
def lnP (σ : Int → Int) (s : Nat) : Int → Int := addP σ (lnG σ s).1 (lnG σ s).2.1 0 0 (lnH σ s) (lnS σ s) (lnG σ s).2.2.1 (lnG σ s).2.2.2.1 (lnG σ s).2.2.2.2
theorem ln_r {σ : Int → Int} {s : Nat} (hV : V σ) (hs : s < 3) (hn : ¬noL σ s) : (5 ≤ lnM σ s ∧ lnM σ s ≤ 200) ∧ (0 ≤ lnH σ s ∧ lnH σ s ≤ 60000) ∧ (0 ≤ lnS σ s ∧ lnS σ s ≤ 60000) ∧ lR (lcl σ s 0) ∧ lR (lcl σ s 1) ∧ (lcl σ s 0).length ≤ 200 ∧ (lcl σ s 1).length ≤ 200 := by
  have ht := σ_tr hV hs
  have l0 := lcl_r hV hs hn 0
  have l1 := lcl_r hV hs hn 1
  unfold noL at hn
  have h5 : 5 ≤ (gl (Lσ σ s) 0).2 := by omega
  have hpos := FS_pos (d := dσ σ s) (gap := σ 0) (show 0 < σ (83 + s) by omega) ht.1.2
  have g := FS_g ht.1.1 hpos
  unfold fsG at g
  have g' : (gl (Lσ σ s) 0).2 ≤ 200 := by unfold Lσ; omega
  exact ⟨⟨h5, g'⟩, hmean_r (by omega) ht.1.2 ht.2 h5 (by decide) (by decide), hmean_r (by omega) ht.1.2 ht.2 h5 (by decide) (by decide), l0.2, l1.2, l0.1, l1.1⟩
theorem lnG_r {σ : Int → Int} {s : Nat} (hV : V σ) (hs : s < 3) (hn : ¬noL σ s) (ho : lnO σ s) : ((lnG σ s).1 = 0 ∨ (lnG σ s).1 = 1) ∧ 1 ≤ (lnG σ s).2.1 ∧ (lnG σ s).2.1 ≤ 16 ∧ lensOk (lnG σ s).1 (lnH σ s) (lnS σ s) (lnG σ s).2.2.1 (lnG σ s).2.2.2.1 (lnG σ s).2.2.2.2 := by
  have hr := ln_r hV hs hn
  refine ⟨?_, ?_, ho.2.1, ho.2.2⟩
  · unfold lnG lnK; split
    · exact Or.inl rfl
    · exact Or.inr rfl
  · unfold lnG lnK; split
    · simp only; omega
    · simp only; omega
theorem V_lnP {σ : Int → Int} {s : Nat} (hV : V σ) (hs : s < 3) (hn : ¬noL σ s) (ho : lnO σ s) (h6 : σ 3 < 6) : V (lnP σ s) := by
  obtain ⟨g1, g2, g3, l1, l2, l3, l4⟩ := lnG_r hV hs hn ho
  refine V_addP hV h6 (by omega) (by omega) (by decide) (by decide) l1 l2 l3 ?_
  rcases l4 with l4 | l4
  · omega
  · exact Or.inr ⟨l4.1, l4.2.1, l4.2.2.1⟩
