/-! The frame of a code: what both sides build; the class's building. -/
abbrev Dn : Type := Int × (Int → Int)
def fput (v : Int) (x : Dn) : Dn := (x.1 + 1, fun i => if i = x.1 then v else x.2 i)
def flay (m v : Int) (x : Dn) : Dn := if 0 < x.1 ∧ x.1 % 2 = m then (x.1, fun i => if i = x.1 - 1 then x.2 (x.1 - 1) + v else x.2 i) else fput v x
def fbit (f : Int → Int) (c k : Int) : Int := bt c (plc f k)
def fstep (f : Int → Int) (c : Int) (k : Int) (x : Dn) : Dn :=
  if f 0 = 2 then flay (1 - fbit f c k) (f 3) (flay (fbit f c k) (f 3) x)
  else if f 0 = 1 then fput (if fbit f c k = 1 then f 5 else f 4) (if 0 < k then fput (f 3) x else x)
  else fput (if fbit f c k = 1 then f 5 else f 4) (fput (f 3) x)
def frK (f : Int → Int) (c : Int) : Nat → Dn
  | 0 => fput (f 2) (fput (f 1) (0, fun _ => 0))
  | k + 1 => fstep f c k (frK f c k)
def fcut (x : Dn) : Dn := if x.1 % 2 = 1 then x else (x.1 - 1, x.2)
def frm (f : Int → Int) (c : Int) : Dn := fcut (if f 0 = 0 then fput (f 3) (frK f c (f 6).toNat) else frK f c (f 6).toNat)
def frs (f : Int → Int) : Dn := fput (f 3) (fput (f 2 / 2) (fput (f 1) (0, fun _ => 0)))
/-- all durations of a train under way are good -/
def Dg (x : Dn) : Prop := ∀ i, 0 ≤ i → i < x.1 → 50 ≤ x.2 i ∧ x.2 i ≤ 40000
theorem Dg_put {x : Dn} {v : Int} (h : Dg x) (hv : 50 ≤ v) (hv' : v ≤ 40000) : Dg (fput v x) := by
  intro i h0 h1
  unfold fput at h1 ⊢
  simp only at h1 ⊢
  split
  · omega
  · exact h i h0 (by omega)
theorem fput_last (v : Int) (x : Dn) : (fput v x).2 ((fput v x).1 - 1) = v := by simp [fput]
theorem fbit_r (f : Int → Int) (c k : Int) : fbit f c k = 0 ∨ fbit f c k = 1 := bt_r _ _
/-- behind k bits: how long, and what the end is -/
theorem frK_r {f : Int → Int} (c : Int) (hf : PV f) : ∀ k : Nat, Dg (frK f c k) ∧ 2 ≤ (frK f c k).1 ∧ (frK f c k).1 ≤ 2 + 2 * k ∧ (frK f c k).2 ((frK f c k).1 - 1) ≤ 20000 ∧ (f 0 = 0 → (frK f c k).1 = 2 + 2 * k) ∧ (f 0 = 1 → 0 < k → (frK f c k).1 = 1 + 2 * k) ∧ (0 < k → 3 ≤ (frK f c k).1)
  | 0 => by
    obtain ⟨-, h1, h2, -⟩ := hf
    refine ⟨?_, by simp [frK, fput], by simp [frK, fput], by simp [frK, fput]; omega, by simp [frK, fput], by simp, by simp⟩
    unfold frK
    refine Dg_put (Dg_put ?_ (by omega) (by omega)) (by omega) (by omega)
    intro i h0 h1; simp only at h1; omega
  | k + 1 => by
    obtain ⟨d, a1, a2, a3, a4, a5, a6⟩ := frK_r c hf k
    obtain ⟨p0, p1, p2, p3, p4, -⟩ := hf
    have hb := fbit_r f c k
    rw [frK]
    generalize frK f c k = x at *
    unfold fstep
    by_cases h2 : f 0 = 2
    · rw [if_pos h2]
      have key : ∀ m, (m = 0 ∨ m = 1) → Dg (flay m (f 3) x) ∧ (flay m (f 3) x).1 % 2 = m ∧ x.1 ≤ (flay m (f 3) x).1 ∧ (flay m (f 3) x).1 ≤ x.1 + 1 := by
        intro m hm
        unfold flay
        by_cases hx : 0 < x.1 ∧ x.1 % 2 = m
        · rw [if_pos hx]
          refine ⟨?_, hx.2, by simp, by simp; omega⟩
          intro i h0 h1
          simp only at h1 ⊢
          have := d i h0 h1
          split
          · rename_i e; rw [e] at this; omega
          · exact this
        · rw [if_neg hx]
          refine ⟨Dg_put d (by omega) (by omega), ?_, by simp [fput]; omega, by simp [fput]⟩
          simp only [fput]; omega
      have key2 : ∀ m (y : Dn), y.1 % 2 = 1 - m → (m = 0 ∨ m = 1) → flay m (f 3) y = fput (f 3) y := by
        intro m y hy hm
        unfold flay; rw [if_neg (by omega)]
      obtain ⟨b1, b2, b3, b4⟩ := key (fbit f c k) hb
      rw [key2 (1 - fbit f c k) _ (by omega) (by omega)]
      generalize flay (fbit f c k) (f 3) x = y at *
      refine ⟨Dg_put b1 (by omega) (by omega), ?_, ?_, ?_, ?_, ?_, ?_⟩
      · simp only [fput]; omega
      · simp only [fput]; omega
      · rw [fput_last]; omega
      · intro h; omega
      · intro h; omega
      · intro h; simp only [fput]; omega
    · rw [if_neg h2]
      have hv : ∀ b : Int, 50 ≤ (if b = 1 then f 5 else f 4) ∧ (if b = 1 then f 5 else f 4) ≤ 20000 := by
        intro b; split <;> omega
      have hv := hv (fbit f c k)
      generalize (if fbit f c k = 1 then f 5 else f 4) = v at *
      by_cases h1 : f 0 = 1
      · rw [if_pos h1]
        by_cases hk : 0 < k
        · rw [if_pos (by omega)]
          have := a5 h1 hk
          refine ⟨Dg_put (Dg_put d (by omega) (by omega)) (by omega) (by omega), ?_, ?_, ?_, ?_, ?_, ?_⟩
          · simp only [fput]; omega
          · simp only [fput]; omega
          · rw [fput_last]; omega
          · intro h; omega
          · intro h _; simp only [fput]; omega
          · intro h; simp only [fput]; omega
        · rw [if_neg (by omega)]
          have : k = 0 := by omega
          subst this
          refine ⟨Dg_put d (by omega) (by omega), ?_, ?_, ?_, ?_, ?_, ?_⟩
          · simp only [fput]; omega
          · simp only [fput]; omega
          · rw [fput_last]; omega
          · intro h; omega
          · intro h _; simp only [fput]; omega
          · intro h; simp only [fput]; omega
      · rw [if_neg h1]
        have h0 : f 0 = 0 := by omega
        have := a4 h0
        refine ⟨Dg_put (Dg_put d (by omega) (by omega)) (by omega) (by omega), ?_, ?_, ?_, ?_, ?_, ?_⟩
        · simp only [fput]; omega
        · simp only [fput]; omega
        · rw [fput_last]; omega
        · intro h; simp only [fput]; omega
        · intro h; omega
        · intro h; simp only [fput]; omega
theorem frm_r {f : Int → Int} (c : Int) (hf : PV f) : Dg (frm f c) ∧ 3 ≤ (frm f c).1 ∧ (frm f c).1 ≤ 35 ∧ (frm f c).1 % 2 = 1 := by
  obtain ⟨d, a1, a2, a3, a4, a5, a6⟩ := frK_r c hf (f 6).toNat
  obtain ⟨p0, p1, p2, p3, p4, p5, -⟩ := hf
  have h6 := a6 (by omega)
  unfold frm
  generalize frK f c (f 6).toNat = x at *
  have key : ∀ y : Dn, Dg y → 3 ≤ y.1 → y.1 ≤ 35 → (y.1 = 35 → y.1 % 2 = 1) → Dg (fcut y) ∧ 3 ≤ (fcut y).1 ∧ (fcut y).1 ≤ 35 ∧ (fcut y).1 % 2 = 1 := by
    intro y hd h3 h4 h5
    unfold fcut
    split
    · exact ⟨hd, h3, h4, by omega⟩
    · exact ⟨fun i h0 h1 => hd i h0 (by simp only at h1; omega), by simp only; omega, by simp only; omega, by simp only; omega⟩
  split
  · rename_i h0
    have := a4 h0
    exact key _ (Dg_put d (by omega) (by omega)) (by simp only [fput]; omega) (by simp only [fput]; omega) (by simp only [fput]; omega)
  · exact key _ d h6 (by omega) (by omega)
section
variable {p : Nat → Nat} {z l : Nat → Int → Int}
def Trx (z : Nat → Int → Int) (t : Nat) (x : Dn) : Prop := Tr z t x.1 x.2
def Fr (t : Nat) (z z' : Nat → Int → Int) : Prop := ∀ k, k ≠ t → k ≠ t + 1 → z' k = z k
theorem Fr_r (t : Nat) (z : Nat → Int → Int) : Fr t z z := fun _ _ _ => rfl
theorem Fr_t {t : Nat} {z z' z'' : Nat → Int → Int} (h : Fr t z z') (h' : Fr t z' z'') : Fr t z z'' := fun k h1 h2 => (h' k h1 h2).trans (h k h1 h2)
theorem w_put {t : Nat} {v : Int} {x : Dn} (ht : isT t) (hx : Trx z t x) (h0 : 0 ≤ x.1) (h1 : x.1 < 200) : WP (f_X10_put t (I3 v) (M p z l)) (fun μ => ∃ z', μ = M p z' l ∧ Trx z' t (fput v x) ∧ Fr t z z') := by
  obtain ⟨e, hd⟩ := hx
  refine ⟨_, g_put ht (by rw [e]; exact h0) (by rw [e]; exact h1), _, rfl, ⟨?_, ?_⟩, ?_⟩
  · rw [up_same, e]; rfl
  · intro i hi hi'
    rw [up_row (by omega), e]
    simp only [fput] at hi' ⊢
    by_cases h : i = x.1
    · rw [if_pos h, h, up_same]
    · rw [if_neg h, up_col h]; exact hd i hi (by omega)
  · intro k hk hk'
    rw [up_row hk, up_row hk']
theorem w_join {t : Nat} {m v : Int} {x : Dn} (ht : isT t) (hx : Trx z t x) (h0 : 0 ≤ x.1) (h1 : x.1 < 200) (hm : 0 ≤ m) (hm' : m ≤ 1) : WP (f_X10_join t (I3 m) (I3 v) (M p z l)) (fun μ => ∃ z', μ = M p z' l ∧ Trx z' t (flay m v x) ∧ Fr t z z') := by
  obtain ⟨e, hd⟩ := hx
  refine ⟨_, g_join ht (by rw [e]; exact h0) (by rw [e]; exact h1) hm hm', _, rfl, ?_, ?_⟩
  · rw [e]
    unfold flay
    by_cases hc : 0 < x.1 ∧ x.1 % 2 = m
    · rw [if_pos hc, if_pos hc]
      constructor
      · rw [up_row (by omega)]; exact e
      · intro i hi hi'
        simp only at hi' ⊢
        by_cases h : i = x.1 - 1
        · rw [if_pos h, h, up_same, hd _ (by omega) (by omega)]
        · rw [if_neg h, up_col h]; exact hd i hi hi'
    · rw [if_neg hc, if_neg hc]
      constructor
      · rw [up_same]; rfl
      · intro i hi hi'
        rw [up_row (by omega)]
        simp only [fput] at hi' ⊢
        by_cases h : i = x.1
        · rw [if_pos h, h, up_same]
        · rw [if_neg h, up_col h]; exact hd i hi (by omega)
  · intro k hk hk'
    split
    · rw [up_row hk']
    · rw [up_row hk, up_row hk']
theorem w_writeBit {t q : Nat} {b k : Int} {x : Dn} {f : Int → Int} (ht : isT t) (hq : isP q) (hqt : q ≠ t) (hqt' : q ≠ t + 1) (hf : z q = f) (hx : Trx z t x) (h0 : 0 ≤ x.1) (h1 : x.1 < 198) (hb : b = 0 ∨ b = 1) (hk : 0 ≤ k) (hk' : k < 16) (h2 : 0 ≤ f 0 ∧ f 0 ≤ 2) : WP (f_X6_writeBit q (I3 b) (I3 k) t (M p z l)) (fun μ => ∃ z', μ = M p z' l ∧ Trx z' t (if f 0 = 2 then flay (1 - b) (f 3) (flay b (f 3) x) else if f 0 = 1 then fput (if b = 1 then f 5 else f 4) (if 0 < k then fput (f 3) x else x) else fput (if b = 1 then f 5 else f 4) (fput (f 3) x)) ∧ Fr t z z') := by
  unfold f_X6_writeBit
  by_cases hk2 : f 0 = 2
  · rw [if_pos hk2]
    have hl : (flay b (f 3) x).1 ≤ x.1 + 1 ∧ x.1 ≤ (flay b (f 3) x).1 := by unfold flay fput; split <;> simp only <;> omega
    simp (disch := first | assumption | omega) only [↓b_hid, bH_some, ↓hid_W, ↓W_ite, WI_t, WI_f, W_some, I3_a, I3_s, I3_m, I3_n, I3_l, I3_lt, I3_le, I3_e, I3_dv, I3_rm, I3_mx, I3_mn, I3_ab, cI, bI_0, bI_1, rZ_b, up_same, up_row, up_col, xr_some, LQ_r, LQ_l, Int.sub_self, Int.add_zero, Int.zero_add, Int.sub_zero, Int.neg_neg, not_true_eq_false, not_false_eq_true, Int.add_sub_cancel, gI_P, pI_P, iO_P, hf, hk2, iO_T, WI_pos, WI_neg]
    refine W_bH (W_imp (w_join ht hx h0 (by omega) (by omega) (by omega)) ?_)
    rintro _ ⟨z1, rfl, a1, a2⟩
    have e1 : z1 q = f := by rw [a2 q hqt hqt', hf]
    have fin : ∀ m : Int, (m = 0 ∨ m = 1) → WP (f_X6_writeBit_27 q (I3 m) t (M p z1 l)) (fun μ => ∃ z', μ = M p z' l ∧ Trx z' t (flay m (f 3) (flay b (f 3) x)) ∧ Fr t z z') := by
      intro m hm
      unfold f_X6_writeBit_27
      simp (disch := first | assumption | omega) only [↓b_hid, bH_some, ↓hid_W, ↓W_ite, WI_t, WI_f, W_some, I3_a, I3_s, I3_m, I3_n, I3_l, I3_lt, I3_le, I3_e, I3_dv, I3_rm, I3_mx, I3_mn, I3_ab, cI, bI_0, bI_1, rZ_b, up_same, up_row, up_col, xr_some, LQ_r, LQ_l, Int.sub_self, Int.add_zero, Int.zero_add, Int.sub_zero, Int.neg_neg, not_true_eq_false, not_false_eq_true, Int.add_sub_cancel, gI_P, pI_P, iO_P, e1, iO_T]
      refine W_bH (W_imp (w_join ht a1 (by omega) (by omega) (by omega) (by omega)) ?_)
      rintro _ ⟨z2, rfl, b1, b2⟩
      simp (disch := first | assumption | omega) only [↓b_hid, bH_some, ↓hid_W, ↓W_ite, WI_t, WI_f, W_some, I3_a, I3_s, I3_m, I3_n, I3_l, I3_lt, I3_le, I3_e, I3_dv, I3_rm, I3_mx, I3_mn, I3_ab, cI, bI_0, bI_1, rZ_b, up_same, up_row, up_col, xr_some, LQ_r, LQ_l, Int.sub_self, Int.add_zero, Int.zero_add, Int.sub_zero, Int.neg_neg, not_true_eq_false, not_false_eq_true, Int.add_sub_cancel]
      exact ⟨z2, rfl, b1, Fr_t a2 b2⟩
    rcases hb with rfl | rfl
    · simp (disch := first | assumption | omega) only [↓b_hid, bH_some, ↓hid_W, ↓W_ite, WI_t, WI_f, W_some, I3_a, I3_s, I3_m, I3_n, I3_l, I3_lt, I3_le, I3_e, I3_dv, I3_rm, I3_mx, I3_mn, I3_ab, cI, bI_0, bI_1, rZ_b, up_same, up_row, up_col, xr_some, LQ_r, LQ_l, Int.sub_self, Int.add_zero, Int.zero_add, Int.sub_zero, Int.neg_neg, not_true_eq_false, not_false_eq_true, Int.add_sub_cancel, WI_pos, WI_neg]; exact fin 1 (Or.inr rfl)
    · simp (disch := first | assumption | omega) only [↓b_hid, bH_some, ↓hid_W, ↓W_ite, WI_t, WI_f, W_some, I3_a, I3_s, I3_m, I3_n, I3_l, I3_lt, I3_le, I3_e, I3_dv, I3_rm, I3_mx, I3_mn, I3_ab, cI, bI_0, bI_1, rZ_b, up_same, up_row, up_col, xr_some, LQ_r, LQ_l, Int.sub_self, Int.add_zero, Int.zero_add, Int.sub_zero, Int.neg_neg, not_true_eq_false, not_false_eq_true, Int.add_sub_cancel, WI_pos, WI_neg]; exact fin 0 (Or.inl rfl)
  · rw [if_neg hk2]
    by_cases hk1 : f 0 = 1
    · rw [if_pos hk1]
      have fin : ∀ (z1 : Nat → Int → Int) (y : Dn), Trx z1 t y → 0 ≤ y.1 → y.1 < 200 → Fr t z z1 → WP (f_X6_writeBit_57 q (I3 b) t (M p z1 l)) (fun μ => ∃ z', μ = M p z' l ∧ Trx z' t (fput (if b = 1 then f 5 else f 4) y) ∧ Fr t z z') := by
        intro z1 y hy hy0 hy1 hz
        have e1 : z1 q = f := by rw [hz q hqt hqt', hf]
        unfold f_X6_writeBit_57
        rcases hb with rfl | rfl
        · simp (disch := first | assumption | omega) only [↓b_hid, bH_some, ↓hid_W, ↓W_ite, WI_t, WI_f, W_some, I3_a, I3_s, I3_m, I3_n, I3_l, I3_lt, I3_le, I3_e, I3_dv, I3_rm, I3_mx, I3_mn, I3_ab, cI, bI_0, bI_1, rZ_b, up_same, up_row, up_col, xr_some, LQ_r, LQ_l, Int.sub_self, Int.add_zero, Int.zero_add, Int.sub_zero, Int.neg_neg, not_true_eq_false, not_false_eq_true, Int.add_sub_cancel, gI_P, pI_P, iO_P, e1, iO_T, f_X6_writeBit_73, WI_pos, WI_neg]
          refine W_bH (W_imp (w_put ht hy hy0 hy1) ?_)
          rintro _ ⟨z2, rfl, b1, b2⟩
          simp (disch := first | assumption | omega) only [↓b_hid, bH_some, ↓hid_W, ↓W_ite, WI_t, WI_f, W_some, I3_a, I3_s, I3_m, I3_n, I3_l, I3_lt, I3_le, I3_e, I3_dv, I3_rm, I3_mx, I3_mn, I3_ab, cI, bI_0, bI_1, rZ_b, up_same, up_row, up_col, xr_some, LQ_r, LQ_l, Int.sub_self, Int.add_zero, Int.zero_add, Int.sub_zero, Int.neg_neg, not_true_eq_false, not_false_eq_true, Int.add_sub_cancel]
          exact ⟨z2, rfl, b1, Fr_t hz b2⟩
        · simp (disch := first | assumption | omega) only [↓b_hid, bH_some, ↓hid_W, ↓W_ite, WI_t, WI_f, W_some, I3_a, I3_s, I3_m, I3_n, I3_l, I3_lt, I3_le, I3_e, I3_dv, I3_rm, I3_mx, I3_mn, I3_ab, cI, bI_0, bI_1, rZ_b, up_same, up_row, up_col, xr_some, LQ_r, LQ_l, Int.sub_self, Int.add_zero, Int.zero_add, Int.sub_zero, Int.neg_neg, not_true_eq_false, not_false_eq_true, Int.add_sub_cancel, gI_P, pI_P, iO_P, e1, iO_T, f_X6_writeBit_73, WI_pos, WI_neg]
          refine W_bH (W_imp (w_put ht hy hy0 hy1) ?_)
          rintro _ ⟨z2, rfl, b1, b2⟩
          simp (disch := first | assumption | omega) only [↓b_hid, bH_some, ↓hid_W, ↓W_ite, WI_t, WI_f, W_some, I3_a, I3_s, I3_m, I3_n, I3_l, I3_lt, I3_le, I3_e, I3_dv, I3_rm, I3_mx, I3_mn, I3_ab, cI, bI_0, bI_1, rZ_b, up_same, up_row, up_col, xr_some, LQ_r, LQ_l, Int.sub_self, Int.add_zero, Int.zero_add, Int.sub_zero, Int.neg_neg, not_true_eq_false, not_false_eq_true, Int.add_sub_cancel]
          exact ⟨z2, rfl, b1, Fr_t hz b2⟩
      by_cases hk0 : 0 < k
      · rw [if_pos hk0]
        simp (disch := first | assumption | omega) only [↓b_hid, bH_some, ↓hid_W, ↓W_ite, WI_t, WI_f, W_some, I3_a, I3_s, I3_m, I3_n, I3_l, I3_lt, I3_le, I3_e, I3_dv, I3_rm, I3_mx, I3_mn, I3_ab, cI, bI_0, bI_1, rZ_b, up_same, up_row, up_col, xr_some, LQ_r, LQ_l, Int.sub_self, Int.add_zero, Int.zero_add, Int.sub_zero, Int.neg_neg, not_true_eq_false, not_false_eq_true, Int.add_sub_cancel, gI_P, pI_P, iO_P, hf, iO_T, WI_pos, WI_neg]
        refine W_bH (W_imp (w_put ht hx h0 (by omega)) ?_)
        rintro _ ⟨z2, rfl, b1, b2⟩
        exact fin z2 _ b1 (by simp only [fput]; omega) (by simp only [fput]; omega) b2
      · rw [if_neg hk0]
        simp (disch := first | assumption | omega) only [↓b_hid, bH_some, ↓hid_W, ↓W_ite, WI_t, WI_f, W_some, I3_a, I3_s, I3_m, I3_n, I3_l, I3_lt, I3_le, I3_e, I3_dv, I3_rm, I3_mx, I3_mn, I3_ab, cI, bI_0, bI_1, rZ_b, up_same, up_row, up_col, xr_some, LQ_r, LQ_l, Int.sub_self, Int.add_zero, Int.zero_add, Int.sub_zero, Int.neg_neg, not_true_eq_false, not_false_eq_true, Int.add_sub_cancel, gI_P, pI_P, iO_P, hf, iO_T, WI_pos, WI_neg]
        exact fin z _ hx h0 (by omega) (Fr_r t z)
    · rw [if_neg hk1]
      simp (disch := first | assumption | omega) only [↓b_hid, bH_some, ↓hid_W, ↓W_ite, WI_t, WI_f, W_some, I3_a, I3_s, I3_m, I3_n, I3_l, I3_lt, I3_le, I3_e, I3_dv, I3_rm, I3_mx, I3_mn, I3_ab, cI, bI_0, bI_1, rZ_b, up_same, up_row, up_col, xr_some, LQ_r, LQ_l, Int.sub_self, Int.add_zero, Int.zero_add, Int.sub_zero, Int.neg_neg, not_true_eq_false, not_false_eq_true, Int.add_sub_cancel, gI_P, pI_P, iO_P, hf, iO_T, WI_pos, WI_neg]
      refine W_bH (W_imp (w_put ht hx h0 (by omega)) ?_)
      rintro _ ⟨z1, rfl, b1, hz⟩
      have e1 : z1 q = f := by rw [hz q hqt hqt', hf]
      rcases hb with rfl | rfl
      · simp (disch := first | assumption | omega) only [↓b_hid, bH_some, ↓hid_W, ↓W_ite, WI_t, WI_f, W_some, I3_a, I3_s, I3_m, I3_n, I3_l, I3_lt, I3_le, I3_e, I3_dv, I3_rm, I3_mx, I3_mn, I3_ab, cI, bI_0, bI_1, rZ_b, up_same, up_row, up_col, xr_some, LQ_r, LQ_l, Int.sub_self, Int.add_zero, Int.zero_add, Int.sub_zero, Int.neg_neg, not_true_eq_false, not_false_eq_true, Int.add_sub_cancel, gI_P, pI_P, iO_P, e1, iO_T, f_X6_writeBit_103, WI_pos, WI_neg]
        refine W_bH (W_imp (w_put ht b1 (by simp only [fput]; omega) (by simp only [fput]; omega)) ?_)
        rintro _ ⟨z2, rfl, b1, b2⟩
        simp (disch := first | assumption | omega) only [↓b_hid, bH_some, ↓hid_W, ↓W_ite, WI_t, WI_f, W_some, I3_a, I3_s, I3_m, I3_n, I3_l, I3_lt, I3_le, I3_e, I3_dv, I3_rm, I3_mx, I3_mn, I3_ab, cI, bI_0, bI_1, rZ_b, up_same, up_row, up_col, xr_some, LQ_r, LQ_l, Int.sub_self, Int.add_zero, Int.zero_add, Int.sub_zero, Int.neg_neg, not_true_eq_false, not_false_eq_true, Int.add_sub_cancel]
        exact ⟨z2, rfl, b1, Fr_t hz b2⟩
      · simp (disch := first | assumption | omega) only [↓b_hid, bH_some, ↓hid_W, ↓W_ite, WI_t, WI_f, W_some, I3_a, I3_s, I3_m, I3_n, I3_l, I3_lt, I3_le, I3_e, I3_dv, I3_rm, I3_mx, I3_mn, I3_ab, cI, bI_0, bI_1, rZ_b, up_same, up_row, up_col, xr_some, LQ_r, LQ_l, Int.sub_self, Int.add_zero, Int.zero_add, Int.sub_zero, Int.neg_neg, not_true_eq_false, not_false_eq_true, Int.add_sub_cancel, gI_P, pI_P, iO_P, e1, iO_T, f_X6_writeBit_103, WI_pos, WI_neg]
        refine W_bH (W_imp (w_put ht b1 (by simp only [fput]; omega) (by simp only [fput]; omega)) ?_)
        rintro _ ⟨z2, rfl, b1, b2⟩
        simp (disch := first | assumption | omega) only [↓b_hid, bH_some, ↓hid_W, ↓W_ite, WI_t, WI_f, W_some, I3_a, I3_s, I3_m, I3_n, I3_l, I3_lt, I3_le, I3_e, I3_dv, I3_rm, I3_mx, I3_mn, I3_ab, cI, bI_0, bI_1, rZ_b, up_same, up_row, up_col, xr_some, LQ_r, LQ_l, Int.sub_self, Int.add_zero, Int.zero_add, Int.sub_zero, Int.neg_neg, not_true_eq_false, not_false_eq_true, Int.add_sub_cancel]
        exact ⟨z2, rfl, b1, Fr_t hz b2⟩
theorem and_pw0 {c k : Int} (hc : 0 ≤ c) (h0 : 0 ≤ k) (h1 : k ≤ 16) : (I3 c &&& I3 (pw k) = I3 0) = (bt c k = 0) := by
  have hp := pw_r h0 h1
  rw [and_pw k hc]
  rcases bt_r c k with h | h
  · rw [h, Int.zero_mul]; simp
  · rw [h, Int.one_mul, I3_e (by omega) (by omega) (by omega) (by omega)]
    apply propext; constructor <;> intro h <;> omega
theorem w_writeFrame {t q : Nat} {c : Int} {f : Int → Int} (ht : isT t) (hq : isP q) (hqt : q ≠ t) (hqt' : q ≠ t + 1) (hf : z q = f) (hc : 0 ≤ c) (hP : PV f) : WP (f_X6_writeFrame q (I3 c) t (M p z l)) (fun μ => ∃ z', μ = M p z' l ∧ Trx z' t (frm f c) ∧ Fr t z z') := by
  have hP' := hP
  obtain ⟨p0, p1, p2, p3, p4, p5, p6, p7⟩ := hP'
  have e1 : up z t 1 0 q = f := by rw [up_row hqt, hf]
  have hx0 : Trx (up z t 1 0) t (0, fun _ => 0) := ⟨by rw [up_same], fun i h0 h1 => by simp only at h1; omega⟩
  unfold f_X6_writeFrame
  simp (disch := first | assumption | omega) only [↓b_hid, bH_some, ↓hid_W, ↓W_ite, WI_t, WI_f, W_some, I3_a, I3_s, I3_m, I3_n, I3_l, I3_lt, I3_le, I3_e, I3_dv, I3_rm, I3_mx, I3_mn, I3_ab, cI, bI_0, bI_1, rZ_b, up_same, up_row, up_col, xr_some, LQ_r, LQ_l, Int.sub_self, Int.add_zero, Int.zero_add, Int.sub_zero, Int.neg_neg, not_true_eq_false, not_false_eq_true, Int.add_sub_cancel, gI_T, pI_T, iO_T, gR_T, aI_T, sI_T, cpI_T, gI_P, pI_P, iO_P, hf]
  refine W_bH (W_imp (w_put ht hx0 (by simp) (by simp)) ?_)
  rintro _ ⟨z1, rfl, a1, a2⟩
  have e2 : z1 q = f := by rw [a2 q hqt hqt', e1]
  simp (disch := first | assumption | omega) only [↓b_hid, bH_some, ↓hid_W, ↓W_ite, WI_t, WI_f, W_some, I3_a, I3_s, I3_m, I3_n, I3_l, I3_lt, I3_le, I3_e, I3_dv, I3_rm, I3_mx, I3_mn, I3_ab, cI, bI_0, bI_1, rZ_b, up_same, up_row, up_col, xr_some, LQ_r, LQ_l, Int.sub_self, Int.add_zero, Int.zero_add, Int.sub_zero, Int.neg_neg, not_true_eq_false, not_false_eq_true, Int.add_sub_cancel, gI_T, pI_T, iO_T, gR_T, aI_T, sI_T, cpI_T, gI_P, pI_P, iO_P, e2]
  refine W_bH (W_imp (w_put ht a1 (by simp [fput]) (by simp [fput])) ?_)
  rintro _ ⟨z2, rfl, b1, b2⟩
  simp (disch := first | assumption | omega) only [↓b_hid, bH_some, ↓hid_W, ↓W_ite, WI_t, WI_f, W_some, I3_a, I3_s, I3_m, I3_n, I3_l, I3_lt, I3_le, I3_e, I3_dv, I3_rm, I3_mx, I3_mn, I3_ab, cI, bI_0, bI_1, rZ_b, up_same, up_row, up_col, xr_some, LQ_r, LQ_l, Int.sub_self, Int.add_zero, Int.zero_add, Int.sub_zero, Int.neg_neg, not_true_eq_false, not_false_eq_true, Int.add_sub_cancel]
  have hF : Fr t z z2 := fun k h1 h2 => by rw [b2 k h1 h2, a2 k h1 h2, up_row h1]
  unfold f_X6_writeFrame_23
  refine lp_W (fun n s => ∃ (k : Nat) (z' : Nat → Int → Int), s = (q, I3 c, t, I3 k, M p z' l) ∧ (k : Int) ≤ f 6 ∧ n = (f 6).toNat - k ∧ Trx z' t (frK f c k) ∧ Fr t z z') (fun n s hs => ?_) ⟨0, z2, rfl, by omega, rfl, b1, hF⟩
  obtain ⟨k, z', rfl, hk, rfl, hx, hz⟩ := hs
  have e3 : z' q = f := by rw [hz q hqt hqt', hf]
  have r := frK_r c hP k
  unfold f_X6_writeFrame_23_b
  by_cases hk6 : (k : Int) < f 6
  · have e7 : (0 ≤ z' q 7 ∧ z' q 7 ≤ 1) := by rw [e3]; exact p6
    have hk7 : (k : Int) < z' q 6 := by rw [e3]; exact hk6
    have hk8 : z' q 6 ≤ 16 := by rw [e3]; exact p5.2
    have hpl := plc_r (f := f) (k := k) (by omega) hk6
    have fin : ∀ b : Int, b = fbit f c k → WP (f_X6_writeFrame_47 q (I3 c) t (I3 k) (I3 b) q (M p z' l)) (LQ (fun μ => ∃ z', μ = M p z' l ∧ Trx z' t (frm f c) ∧ Fr t z z') (fun n s => ∃ (k : Nat) (z' : Nat → Int → Int), s = (q, I3 c, t, I3 k, M p z' l) ∧ (k : Int) ≤ f 6 ∧ n = (f 6).toNat - k ∧ Trx z' t (frK f c k) ∧ Fr t z z') ((f 6).toNat - k)) := by
      intro b hb
      subst hb
      unfold f_X6_writeFrame_47
      simp (disch := first | assumption | omega) only [↓b_hid, bH_some, ↓hid_W, ↓W_ite, WI_t, WI_f, W_some, I3_a, I3_s, I3_m, I3_n, I3_l, I3_lt, I3_le, I3_e, I3_dv, I3_rm, I3_mx, I3_mn, I3_ab, cI, bI_0, bI_1, rZ_b, up_same, up_row, up_col, xr_some, LQ_r, LQ_l, Int.sub_self, Int.add_zero, Int.zero_add, Int.sub_zero, Int.neg_neg, not_true_eq_false, not_false_eq_true, Int.add_sub_cancel, gI_P, pI_P, iO_P]
      refine W_bH (W_imp (w_writeBit ht hq hqt hqt' e3 hx (by omega) (by omega) (fbit_r f c k) (by omega) (by omega) p0) ?_)
      rintro _ ⟨z4, rfl, c1, c2⟩
      simp (disch := first | assumption | omega) only [↓b_hid, bH_some, ↓hid_W, ↓W_ite, WI_t, WI_f, W_some, I3_a, I3_s, I3_m, I3_n, I3_l, I3_lt, I3_le, I3_e, I3_dv, I3_rm, I3_mx, I3_mn, I3_ab, cI, bI_0, bI_1, rZ_b, up_same, up_row, up_col, xr_some, LQ_r, LQ_l, Int.sub_self, Int.add_zero, Int.zero_add, Int.sub_zero, Int.neg_neg, not_true_eq_false, not_false_eq_true, Int.add_sub_cancel]
      exact ⟨_, by omega, k + 1, z4, by rw [Int.natCast_add]; rfl, by omega, rfl, c1, Fr_t hz c2⟩
    simp (disch := first | assumption | omega) only [↓b_hid, bH_some, ↓hid_W, ↓W_ite, WI_t, WI_f, W_some, I3_a, I3_s, I3_m, I3_n, I3_l, I3_lt, I3_le, I3_e, I3_dv, I3_rm, I3_mx, I3_mn, I3_ab, cI, bI_0, bI_1, rZ_b, up_same, up_row, up_col, xr_some, LQ_r, LQ_l, Int.sub_self, Int.add_zero, Int.zero_add, Int.sub_zero, Int.neg_neg, not_true_eq_false, not_false_eq_true, Int.add_sub_cancel, gI_P, pI_P, iO_P, g_mask, e3]
    refine WI_i (fun h => absurd h (by omega)) (fun _ => ?_)
    have hpl2 : plc f k ≤ 16 := by omega
    simp (disch := first | assumption | omega) only [↓b_hid, bH_some, ↓hid_W, ↓W_ite, WI_t, WI_f, W_some, I3_a, I3_s, I3_m, I3_n, I3_l, I3_lt, I3_le, I3_e, I3_dv, I3_rm, I3_mx, I3_mn, I3_ab, cI, bI_0, bI_1, rZ_b, up_same, up_row, up_col, xr_some, LQ_r, LQ_l, Int.sub_self, Int.add_zero, Int.zero_add, Int.sub_zero, Int.neg_neg, not_true_eq_false, not_false_eq_true, Int.add_sub_cancel, gI_P, pI_P, iO_P, g_mask, e3, and_pw0]
    refine WI_i (fun h => ?_) (fun h => ?_)
    · simp (disch := first | assumption | omega) only [↓b_hid, bH_some, ↓hid_W, ↓W_ite, WI_t, WI_f, W_some, I3_a, I3_s, I3_m, I3_n, I3_l, I3_lt, I3_le, I3_e, I3_dv, I3_rm, I3_mx, I3_mn, I3_ab, cI, bI_0, bI_1, rZ_b, up_same, up_row, up_col, xr_some, LQ_r, LQ_l, Int.sub_self, Int.add_zero, Int.zero_add, Int.sub_zero, Int.neg_neg, not_true_eq_false, not_false_eq_true, Int.add_sub_cancel]; exact fin 0 h.symm
    · simp (disch := first | assumption | omega) only [↓b_hid, bH_some, ↓hid_W, ↓W_ite, WI_t, WI_f, W_some, I3_a, I3_s, I3_m, I3_n, I3_l, I3_lt, I3_le, I3_e, I3_dv, I3_rm, I3_mx, I3_mn, I3_ab, cI, bI_0, bI_1, rZ_b, up_same, up_row, up_col, xr_some, LQ_r, LQ_l, Int.sub_self, Int.add_zero, Int.zero_add, Int.sub_zero, Int.neg_neg, not_true_eq_false, not_false_eq_true, Int.add_sub_cancel]; exact fin 1 (by unfold fbit; have := bt_r c (plc f k); omega)
  · have ek : k = (f 6).toNat := by omega
    have hk1 : 3 ≤ (frK f c k).1 := r.2.2.2.2.2.2 (by omega)
    have fin : ∀ (z1 : Nat → Int → Int) (y : Dn), Trx z1 t y → 3 ≤ y.1 → y.1 < 200 → Fr t z z1 → WP (f_X6_writeFrame_73 t (M p z1 l)) (fun μ => ∃ z', μ = M p z' l ∧ Trx z' t (fcut y) ∧ Fr t z z') := by
      intro z1 y hy hy0 hy1 hz
      obtain ⟨y1, y2⟩ := hy
      unfold f_X6_writeFrame_73
      simp (disch := first | assumption | omega) only [↓b_hid, bH_some, ↓hid_W, ↓W_ite, WI_t, WI_f, W_some, I3_a, I3_s, I3_m, I3_n, I3_l, I3_lt, I3_le, I3_e, I3_dv, I3_rm, I3_mx, I3_mn, I3_ab, cI, bI_0, bI_1, rZ_b, up_same, up_row, up_col, xr_some, LQ_r, LQ_l, Int.sub_self, Int.add_zero, Int.zero_add, Int.sub_zero, Int.neg_neg, not_true_eq_false, not_false_eq_true, Int.add_sub_cancel, gI_T, pI_T, iO_T, gR_T, aI_T, sI_T, cpI_T, g_ewm, y1]
      unfold fcut
      refine WI_i (fun h => ?_) (fun h => ?_)
      · simp (disch := first | assumption | omega) only [↓b_hid, bH_some, ↓hid_W, ↓W_ite, WI_t, WI_f, W_some, I3_a, I3_s, I3_m, I3_n, I3_l, I3_lt, I3_le, I3_e, I3_dv, I3_rm, I3_mx, I3_mn, I3_ab, cI, bI_0, bI_1, rZ_b, up_same, up_row, up_col, xr_some, LQ_r, LQ_l, Int.sub_self, Int.add_zero, Int.zero_add, Int.sub_zero, Int.neg_neg, not_true_eq_false, not_false_eq_true, Int.add_sub_cancel, gI_T, pI_T, iO_T, gR_T, aI_T, sI_T, cpI_T, y1]
        rw [if_neg h]
        refine ⟨_, rfl, ⟨by rw [up_same], fun i h0 h1 => ?_⟩, fun k h1 h2 => ?_⟩
        · simp only at h1 ⊢
          rw [up_row (by omega)]; exact y2 i h0 (by omega)
        · rw [up_row h1]; exact hz k h1 h2
      · simp (disch := first | assumption | omega) only [↓b_hid, bH_some, ↓hid_W, ↓W_ite, WI_t, WI_f, W_some, I3_a, I3_s, I3_m, I3_n, I3_l, I3_lt, I3_le, I3_e, I3_dv, I3_rm, I3_mx, I3_mn, I3_ab, cI, bI_0, bI_1, rZ_b, up_same, up_row, up_col, xr_some, LQ_r, LQ_l, Int.sub_self, Int.add_zero, Int.zero_add, Int.sub_zero, Int.neg_neg, not_true_eq_false, not_false_eq_true, Int.add_sub_cancel]
        rw [if_pos (by omega)]
        exact ⟨z1, rfl, ⟨y1, y2⟩, hz⟩
    simp (disch := first | assumption | omega) only [↓b_hid, bH_some, ↓hid_W, ↓W_ite, WI_t, WI_f, W_some, I3_a, I3_s, I3_m, I3_n, I3_l, I3_lt, I3_le, I3_e, I3_dv, I3_rm, I3_mx, I3_mn, I3_ab, cI, bI_0, bI_1, rZ_b, up_same, up_row, up_col, xr_some, LQ_r, LQ_l, Int.sub_self, Int.add_zero, Int.zero_add, Int.sub_zero, Int.neg_neg, not_true_eq_false, not_false_eq_true, Int.add_sub_cancel, gI_P, pI_P, iO_P, e3, WI_pos, WI_neg]
    refine W_xr ?_
    unfold f_X6_writeFrame_58
    simp (disch := first | assumption | omega) only [↓b_hid, bH_some, ↓hid_W, ↓W_ite, WI_t, WI_f, W_some, I3_a, I3_s, I3_m, I3_n, I3_l, I3_lt, I3_le, I3_e, I3_dv, I3_rm, I3_mx, I3_mn, I3_ab, cI, bI_0, bI_1, rZ_b, up_same, up_row, up_col, xr_some, LQ_r, LQ_l, Int.sub_self, Int.add_zero, Int.zero_add, Int.sub_zero, Int.neg_neg, not_true_eq_false, not_false_eq_true, Int.add_sub_cancel, gI_P, pI_P, iO_P, e3, LQ_r]
    refine WI_i (fun h => ?_) (fun h => ?_)
    · simp (disch := first | assumption | omega) only [↓b_hid, bH_some, ↓hid_W, ↓W_ite, WI_t, WI_f, W_some, I3_a, I3_s, I3_m, I3_n, I3_l, I3_lt, I3_le, I3_e, I3_dv, I3_rm, I3_mx, I3_mn, I3_ab, cI, bI_0, bI_1, rZ_b, up_same, up_row, up_col, xr_some, LQ_r, LQ_l, Int.sub_self, Int.add_zero, Int.zero_add, Int.sub_zero, Int.neg_neg, not_true_eq_false, not_false_eq_true, Int.add_sub_cancel, gI_P, pI_P, iO_P, e3, iO_T]
      refine W_bH (W_imp (w_put ht hx (by omega) (by omega)) ?_)
      rintro _ ⟨z4, rfl, c1, c2⟩
      unfold frm; rw [if_pos h, ← ek]
      exact fin z4 _ c1 (by simp only [fput]; omega) (by simp only [fput]; omega) (Fr_t hz c2)
    · simp (disch := first | assumption | omega) only [↓b_hid, bH_some, ↓hid_W, ↓W_ite, WI_t, WI_f, W_some, I3_a, I3_s, I3_m, I3_n, I3_l, I3_lt, I3_le, I3_e, I3_dv, I3_rm, I3_mx, I3_mn, I3_ab, cI, bI_0, bI_1, rZ_b, up_same, up_row, up_col, xr_some, LQ_r, LQ_l, Int.sub_self, Int.add_zero, Int.zero_add, Int.sub_zero, Int.neg_neg, not_true_eq_false, not_false_eq_true, Int.add_sub_cancel]
      unfold frm; rw [if_neg h, ← ek]
      exact fin z' _ hx hk1 (by omega) hz
theorem w_writeShort {t q : Nat} {f : Int → Int} (ht : isT t) (hq : isP q) (hqt : q ≠ t) (hqt' : q ≠ t + 1) (hf : z q = f) (hP : PV f) : WP (f_X6_writeShortFrame q t (M p z l)) (fun μ => ∃ z', μ = M p z' l ∧ Trx z' t (frs f) ∧ Fr t z z') := by
  obtain ⟨p0, p1, p2, p3, p4, p5, p6, p7⟩ := hP
  have e1 : up z t 1 0 q = f := by rw [up_row hqt, hf]
  have hx0 : Trx (up z t 1 0) t (0, fun _ => 0) := ⟨by rw [up_same], fun i h0 h1 => by simp only at h1; omega⟩
  unfold f_X6_writeShortFrame
  simp (disch := first | assumption | omega) only [↓b_hid, bH_some, ↓hid_W, ↓W_ite, WI_t, WI_f, W_some, I3_a, I3_s, I3_m, I3_n, I3_l, I3_lt, I3_le, I3_e, I3_dv, I3_rm, I3_mx, I3_mn, I3_ab, cI, bI_0, bI_1, rZ_b, up_same, up_row, up_col, xr_some, LQ_r, LQ_l, Int.sub_self, Int.add_zero, Int.zero_add, Int.sub_zero, Int.neg_neg, not_true_eq_false, not_false_eq_true, Int.add_sub_cancel, gI_T, pI_T, iO_T, gR_T, aI_T, sI_T, cpI_T, gI_P, pI_P, iO_P, hf]
  refine W_bH (W_imp (w_put ht hx0 (by simp) (by simp)) ?_)
  rintro _ ⟨z1, rfl, a1, a2⟩
  have e2 : z1 q = f := by rw [a2 q hqt hqt', e1]
  simp (disch := first | assumption | omega) only [↓b_hid, bH_some, ↓hid_W, ↓W_ite, WI_t, WI_f, W_some, I3_a, I3_s, I3_m, I3_n, I3_l, I3_lt, I3_le, I3_e, I3_dv, I3_rm, I3_mx, I3_mn, I3_ab, cI, bI_0, bI_1, rZ_b, up_same, up_row, up_col, xr_some, LQ_r, LQ_l, Int.sub_self, Int.add_zero, Int.zero_add, Int.sub_zero, Int.neg_neg, not_true_eq_false, not_false_eq_true, Int.add_sub_cancel, gI_T, pI_T, iO_T, gR_T, aI_T, sI_T, cpI_T, gI_P, pI_P, iO_P, e2]
  refine W_bH (W_imp (w_put ht a1 (by simp [fput]) (by simp [fput])) ?_)
  rintro _ ⟨z2, rfl, b1, b2⟩
  have e3 : z2 q = f := by rw [b2 q hqt hqt', e2]
  simp (disch := first | assumption | omega) only [↓b_hid, bH_some, ↓hid_W, ↓W_ite, WI_t, WI_f, W_some, I3_a, I3_s, I3_m, I3_n, I3_l, I3_lt, I3_le, I3_e, I3_dv, I3_rm, I3_mx, I3_mn, I3_ab, cI, bI_0, bI_1, rZ_b, up_same, up_row, up_col, xr_some, LQ_r, LQ_l, Int.sub_self, Int.add_zero, Int.zero_add, Int.sub_zero, Int.neg_neg, not_true_eq_false, not_false_eq_true, Int.add_sub_cancel, gI_T, pI_T, iO_T, gR_T, aI_T, sI_T, cpI_T, gI_P, pI_P, iO_P, e3]
  refine W_bH (W_imp (w_put ht b1 (by simp [fput]) (by simp [fput])) ?_)
  rintro _ ⟨z3, rfl, c1, c2⟩
  simp (disch := first | assumption | omega) only [↓b_hid, bH_some, ↓hid_W, ↓W_ite, WI_t, WI_f, W_some, I3_a, I3_s, I3_m, I3_n, I3_l, I3_lt, I3_le, I3_e, I3_dv, I3_rm, I3_mx, I3_mn, I3_ab, cI, bI_0, bI_1, rZ_b, up_same, up_row, up_col, xr_some, LQ_r, LQ_l, Int.sub_self, Int.add_zero, Int.zero_add, Int.sub_zero, Int.neg_neg, not_true_eq_false, not_false_eq_true, Int.add_sub_cancel]
  exact ⟨z3, rfl, c1, fun k h1 h2 => by rw [c2 k h1 h2, b2 k h1 h2, a2 k h1 h2, up_row h1]⟩
end
