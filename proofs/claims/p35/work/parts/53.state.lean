/-! The class's states: what they hold of the row of numbers; copies; the saved ones. -/
section
variable {p : Nat → Nat} {z l : Nat → Int → Int}
theorem tbZ_row {a b k : Nat} (h : k < a ∨ a + 10 ≤ k) (z : Nat → Int → Int) : tbZ z a b k = z k := by
  unfold tbZ
  rw [up_row (by omega), up_row (by omega), cpr_row (by omega), cpr_row (by omega)]
  funext j; unfold ptZ; rw [if_neg (by omega)]
theorem tbZ_1 {a b : Nat} (z : Nat → Int → Int) : tbZ z a b a 1 = z b 1 ∧ tbZ z a b a 4 = z b 4 := by
  unfold tbZ
  exact ⟨by rw [up_col (by decide), up_same], by rw [up_same]⟩
theorem tbZ_p {a b i : Nat} {j : Int} (h : i < 6) (h0 : 0 ≤ j) (h1 : j < 9) (z : Nat → Int → Int) : tbZ z a b (a + 4 + i) j = z (b + 4 + i) j := by
  unfold tbZ
  rw [up_row (by omega), up_row (by omega), cpr_row (by omega), cpr_row (by omega)]
  unfold ptZ; rw [if_pos (by omega), show b + (a + 4 + i - a) = b + 4 + i by omega]
theorem tbZ_b {a b : Nat} {j : Int} (h0 : 0 ≤ j) (h1 : j < 12) (hab : a + 10 ≤ b ∨ b + 10 ≤ a) (z : Nat → Int → Int) : tbZ z a b (a + 2) j = z (b + 2) j ∧ tbZ z a b (a + 3) j = z (b + 3) j := by
  unfold tbZ
  constructor
  · rw [up_row (by omega), up_row (by omega), cpr_row (by omega), cpr_in rfl h0 h1]; unfold ptZ; rw [if_neg (by omega)]
  · rw [up_row (by omega), up_row (by omega), cpr_in rfl h0 h1, cpr_row (by omega)]; unfold ptZ; rw [if_neg (by omega)]
def PV (f : Int → Int) : Prop := (0 ≤ f 0 ∧ f 0 ≤ 2) ∧ (50 ≤ f 1 ∧ f 1 ≤ 20000) ∧ (50 ≤ f 2 ∧ f 2 ≤ 20000) ∧ (50 ≤ f 3 ∧ f 3 ≤ 20000) ∧ (f 0 = 2 ∧ f 4 = 0 ∧ f 5 = 0 ∨ f 0 ≠ 2 ∧ (50 ≤ f 4 ∧ f 4 ≤ 20000) ∧ (50 ≤ f 5 ∧ f 5 ≤ 20000)) ∧ (1 ≤ f 6 ∧ f 6 ≤ 16) ∧ (0 ≤ f 7 ∧ f 7 ≤ 1) ∧ (0 ≤ f 8 ∧ f 8 ≤ 2)
/-- the row of numbers is one that calls can make -/
def V (σ : Int → Int) : Prop := (1000 ≤ σ 0 ∧ σ 0 ≤ 60000) ∧ (1000 ≤ σ 1 ∧ σ 1 ≤ 60000) ∧ (0 ≤ σ 2 ∧ σ 2 ≤ 40) ∧ (0 ≤ σ 3 ∧ σ 3 ≤ 6) ∧ (0 ≤ σ 58 ∧ σ 58 ≤ 12) ∧ (∀ q : Nat, (q : Int) < σ 3 → PV (fun f => σ (4 + 9 * q + f))) ∧ (∀ k : Int, 0 ≤ k → k < σ 58 → 0 ≤ σ (59 + 2 * k) ∧ σ (59 + 2 * k) < σ 3 ∧ 0 ≤ σ (60 + 2 * k) ∧ σ (60 + 2 * k) < 65536) ∧ (∀ s : Nat, s < 3 → (0 ≤ σ (83 + s) ∧ σ (83 + s) ≤ 200) ∧ ∀ i : Int, 0 ≤ i → i < σ (83 + s) → 1 ≤ σ (86 + 200 * s + i) ∧ σ (86 + 200 * s + i) ≤ 60000)
/-- the table at t holds the row's -/
def Tb (z : Nat → Int → Int) (t : Nat) (σ : Int → Int) : Prop := z t 1 = σ 3 ∧ z t 4 = σ 58 ∧ (∀ q : Nat, (q : Int) < σ 3 → ∀ f : Int, 0 ≤ f → f < 9 → z (t + 4 + q) f = σ (4 + 9 * q + f)) ∧ (∀ k : Int, 0 ≤ k → k < σ 58 → z (t + 2) k = σ (59 + 2 * k) ∧ z (t + 3) k = σ (60 + 2 * k))
def Tr (z : Nat → Int → Int) (t : Nat) (n : Int) (d : Int → Int) : Prop := z t 1 = n ∧ ∀ i : Int, 0 ≤ i → i < n → z (t + 1) i = d i
def St (z : Nat → Int → Int) (b : Nat) (σ : Int → Int) : Prop := (z b 2 = σ 0 ∧ z b 3 = σ 1 ∧ z b 4 = σ 2) ∧ Tb z (b + 1) σ ∧ ∀ s : Nat, s < 3 → Tr z (b + 12 + 2 * s) (σ (83 + s)) (fun i => σ (86 + 200 * s + i))
theorem Tb_congr {z z' : Nat → Int → Int} {t : Nat} {σ : Int → Int} (h : ∀ k, t ≤ k → k < t + 10 → z' k = z k) (hv : 0 ≤ σ 3 ∧ σ 3 ≤ 6) (hT : Tb z t σ) : Tb z' t σ := by
  obtain ⟨h1, h2, h3, h4⟩ := hT
  refine ⟨by rw [h t (by omega) (by omega)]; exact h1, by rw [h t (by omega) (by omega)]; exact h2, ?_, ?_⟩
  · intro q hq f hf hf'
    rw [h (t + 4 + q) (by omega) (by omega)]; exact h3 q hq f hf hf'
  · intro k hk hk'
    rw [h (t + 2) (by omega) (by omega), h (t + 3) (by omega) (by omega)]; exact h4 k hk hk'
theorem Tr_congr {z z' : Nat → Int → Int} {t : Nat} {n : Int} {d : Int → Int} (h : z' t = z t) (h' : z' (t + 1) = z (t + 1)) (hT : Tr z t n d) : Tr z' t n d := by
  unfold Tr; rw [h, h']; exact hT
theorem St_congr {z z' : Nat → Int → Int} {b : Nat} {σ : Int → Int} (hV : V σ) (h : ∀ k, b ≤ k → k < b + 18 → z' k = z k) (hS : St z b σ) : St z' b σ := by
  obtain ⟨h1, h2, h3⟩ := hS
  refine ⟨by rw [h b (by omega) (by omega)]; exact h1, Tb_congr (fun k hk hk' => h k (by omega) (by omega)) hV.2.2.2.1 h2, ?_⟩
  intro s hs
  exact Tr_congr (h _ (by omega) (by omega)) (h _ (by omega) (by omega)) (h3 s hs)
theorem Tb_copy {a b : Nat} {σ : Int → Int} (hv : 0 ≤ σ 3 ∧ σ 3 ≤ 6) (hv' : σ 58 ≤ 12) (hab : a + 10 ≤ b ∨ b + 10 ≤ a) (hT : Tb z b σ) : Tb (tbZ z a b) a σ := by
  obtain ⟨h1, h2, h3, h4⟩ := hT
  refine ⟨by rw [(tbZ_1 z).1]; exact h1, by rw [(tbZ_1 z).2]; exact h2, ?_, ?_⟩
  · intro q hq f hf hf'
    rw [tbZ_p (by omega) hf hf']; exact h3 q hq f hf hf'
  · intro k hk hk'
    rw [(tbZ_b hk (by omega) hab z).1, (tbZ_b hk (by omega) hab z).2]; exact h4 k hk hk'
theorem g_trAt {b : Nat} {i : Int} (hb : isB b) (hi : 0 ≤ i) (hi' : i < 3) : f_X7_trainAt b (I3 i) (M p z l) = some (b + 12 + 2 * i.toNat, M p z l) := by
  apply W_eq; unfold f_X7_trainAt; simp (disch := first | assumption | omega) only [↓b_hid, bH_some, ↓hid_W, ↓W_ite, WI_t, WI_f, W_some, I3_a, I3_s, I3_m, I3_n, I3_l, I3_lt, I3_le, I3_e, I3_dv, I3_rm, I3_mx, I3_mn, I3_ab, cI, bI_0, bI_1, rZ_b, up_same, up_row, up_col, xr_some, LQ_r, LQ_l, Int.sub_self, Int.add_zero, Int.zero_add, Int.sub_zero, Int.neg_neg, not_true_eq_false, not_false_eq_true, Int.add_sub_cancel, gI_B, pI_B, iO_B, gR_B0, gR_B1, aR_B, g_isSlot, bI_t, WI_pos, WI_neg]
theorem g_scopy {a b : Nat} {σ : Int → Int} (ha : isB a) (hb : isB b) (hab : a + 18 ≤ b ∨ b + 18 ≤ a) (hV : V σ) (hS : St z b σ) : WP (f_X7_copyFrom a b (M p z l)) (fun μ => ∃ z', μ = M p z' l ∧ St z' a σ ∧ ∀ k, k < a ∨ a + 18 ≤ k → z' k = z k) := by
  unfold f_X7_copyFrom
  have hta := isTb_B ha
  have htb := isTb_B hb
  have hsep : a + 1 + 10 ≤ b + 1 ∨ b + 1 + 10 ≤ a + 1 := by omega
  have hT := Tb_copy (a := a + 1) (b := b + 1) (z := z) hV.2.2.2.1 hV.2.2.2.2.1.2 hsep hS.2.1
  simp (disch := first | assumption | omega) only [↓b_hid, bH_some, ↓hid_W, ↓W_ite, WI_t, WI_f, W_some, I3_a, I3_s, I3_m, I3_n, I3_l, I3_lt, I3_le, I3_e, I3_dv, I3_rm, I3_mx, I3_mn, I3_ab, cI, bI_0, bI_1, rZ_b, up_same, up_row, up_col, xr_some, LQ_r, LQ_l, Int.sub_self, Int.add_zero, Int.zero_add, Int.sub_zero, Int.neg_neg, not_true_eq_false, not_false_eq_true, Int.add_sub_cancel, gI_B, pI_B, iO_B, gR_B0, gR_B1, aR_B, iO_Tb, g_tbcopy]
  unfold f_X7_copyFrom_13
  refine lp_W (fun n s => ∃ (i : Nat) (z' : Nat → Int → Int), s = (a, b, I3 i, M p z' l) ∧ i ≤ 3 ∧ n = 3 - i ∧ (∀ k, k < a ∨ a + 18 ≤ k → z' k = z k) ∧ Tb z' (a + 1) σ ∧ ∀ s : Nat, s < i → Tr z' (a + 12 + 2 * s) (σ (83 + s)) (fun j => σ (86 + 200 * s + j))) (fun n s hs => ?_) ⟨0, _, rfl, by omega, rfl, fun k hk => tbZ_row (by omega) z, hT, fun s hs => absurd hs (Nat.not_lt_zero s)⟩
  obtain ⟨i, z', rfl, hi, rfl, hf, hT, ht⟩ := hs
  unfold f_X7_copyFrom_13_b
  by_cases h : i < 3
  · have h1 := isT_B ha h
    have h2 := isT_B hb h
    have e4 : (i : Int).toNat = i := Int.toNat_natCast i
    have hr := hS.2.2 i h
    have hr' : Tr z' (b + 12 + 2 * i) (σ (83 + i)) (fun j => σ (86 + 200 * i + j)) := Tr_congr (hf _ (by omega)) (hf _ (by omega)) hr
    have hv := (hV.2.2.2.2.2.2.2 i h).1
    obtain ⟨r1, r2⟩ := hr'
    have n1 : a + 12 + 2 * i ≠ b + 12 + 2 * i := by omega
    have n2 : a + 12 + 2 * i ≠ b + 12 + 2 * i + 1 := by omega
    simp (disch := first | assumption | omega) only [↓b_hid, bH_some, ↓hid_W, ↓W_ite, WI_t, WI_f, W_some, I3_a, I3_s, I3_m, I3_n, I3_l, I3_lt, I3_le, I3_e, I3_dv, I3_rm, I3_mx, I3_mn, I3_ab, cI, bI_0, bI_1, rZ_b, up_same, up_row, up_col, xr_some, LQ_r, LQ_l, Int.sub_self, Int.add_zero, Int.zero_add, Int.sub_zero, Int.neg_neg, not_true_eq_false, not_false_eq_true, Int.add_sub_cancel, gI_B, pI_B, iO_B, gR_B0, gR_B1, aR_B, iO_T, g_tcopy, e4, WI_pos, WI_neg]
    refine ⟨3 - (i + 1), by omega, i + 1, _, rfl, by omega, rfl, ?_, ?_, ?_⟩
    · intro k hk
      rw [cpr_row (by omega), up_row (by omega)]; exact hf k hk
    · refine Tb_congr (fun k hk hk' => ?_) hV.2.2.2.1 hT
      rw [cpr_row (by omega), up_row (by omega)]
    · intro s hs
      by_cases h5 : s = i
      · subst h5
        constructor
        · rw [cpr_row (by omega), up_same]; exact r1
        · intro j hj hj'
          rw [cpr_in rfl hj (by rw [r1]; exact hj'), up_row (by omega)]; exact r2 j hj hj'
      · refine Tr_congr ?_ ?_ (ht s (by omega))
        · rw [cpr_row (by omega), up_row (by omega)]
        · rw [cpr_row (by omega), up_row (by omega)]
  · have : i = 3 := by omega
    subst this
    have n1 : b ≠ a := by omega
    have eb : z' b = z b := hf b (by omega)
    have e0 := hS.1
    simp (disch := first | assumption | omega) only [↓b_hid, bH_some, ↓hid_W, ↓W_ite, WI_t, WI_f, W_some, I3_a, I3_s, I3_m, I3_n, I3_l, I3_lt, I3_le, I3_e, I3_dv, I3_rm, I3_mx, I3_mn, I3_ab, cI, bI_0, bI_1, rZ_b, up_same, up_row, up_col, xr_some, LQ_r, LQ_l, Int.sub_self, Int.add_zero, Int.zero_add, Int.sub_zero, Int.neg_neg, not_true_eq_false, not_false_eq_true, Int.add_sub_cancel, gI_B, pI_B, iO_B, gR_B0, gR_B1, aR_B, f_X7_copyFrom_39, eb, xr_some, WI_pos, WI_neg]
    refine ⟨_, rfl, ⟨⟨?_, ?_, ?_⟩, ?_, ?_⟩, ?_⟩
    · rw [up_col (by decide), up_col (by decide), up_same]; exact e0.1
    · rw [up_col (by decide), up_same]; exact e0.2.1
    · rw [up_same]; exact e0.2.2
    · refine Tb_congr (fun k hk hk' => ?_) hV.2.2.2.1 hT
      rw [up_row (by omega), up_row (by omega), up_row (by omega)]
    · intro s hs
      refine Tr_congr ?_ ?_ (ht s hs)
      · rw [up_row (by omega), up_row (by omega), up_row (by omega)]
      · rw [up_row (by omega), up_row (by omega), up_row (by omega)]
    · intro k hk
      rw [up_row (by omega), up_row (by omega), up_row (by omega)]; exact hf k hk
/-- seven different states -/
def PB (p : Nat → Nat) : Prop := (∀ j, j < 7 → isB (p j)) ∧ ∀ i j, i < 7 → j < 7 → i ≠ j → p i ≠ p j
/-- the saved states are the past -/
def Hs (z : Nat → Int → Int) (p : Nat → Nat) (n : Int) (h : Int → Int → Int) : Prop := z 0 2 = n ∧ ∀ j : Nat, (j : Int) < n → V (h j) ∧ St z (p (j + 1)) (h j)
/-- the past with one more -/
def hsP (n : Int) (h : Int → Int → Int) (σ : Int → Int) : Int → Int → Int := fun j => if n < 6 then (if j = n then σ else h j) else (if j = 5 then σ else h (j + 1))
def hsN (n : Int) : Int := if n < 6 then n + 1 else 6
theorem g_save56 {n : Int} {σ : Int → Int} {h : Int → Int → Int} (hp : PB p) (hn0 : 0 ≤ n) (hn : n < 6) (hV : V σ) (hS : St z (p 0) σ) (hH : Hs z p n h) : WP (f_X11_saveState_56 0 (M p z l)) (fun μ => ∃ z', μ = M p z' l ∧ St z' (p 0) σ ∧ Hs z' p (n + 1) (hsP n h σ) ∧ ∀ k, 18 < k → (k < 57 ∨ 165 ≤ k) → z' k = z k) := by
  obtain ⟨hz, hH⟩ := hH
  unfold f_X11_saveState_56
  have hb0 := hp.1 0 (by omega)
  have hb1 := hp.1 (n.toNat + 1) (by omega)
  have hne := hp.2 0 (n.toNat + 1) (by omega) (by omega) (by omega)
  have hsep := isB_sep hb1 hb0 (Ne.symm hne)
  obtain ⟨μ, e, z', rfl, h1, h2⟩ := g_scopy (p := p) (z := z) (l := l) hb1 hb0 hsep hV hS
  have r0 := isB_r hb0
  have r1 := isB_r hb1
  have e0 : z' 0 = z 0 := h2 0 (by omega)
  simp (disch := first | assumption | omega) only [↓b_hid, bH_some, ↓hid_W, ↓W_ite, WI_t, WI_f, W_some, I3_a, I3_s, I3_m, I3_n, I3_l, I3_lt, I3_le, I3_e, I3_dv, I3_rm, I3_mx, I3_mn, I3_ab, cI, bI_0, bI_1, rZ_b, up_same, up_row, up_col, xr_some, LQ_r, LQ_l, Int.sub_self, Int.add_zero, Int.zero_add, Int.sub_zero, Int.neg_neg, not_true_eq_false, not_false_eq_true, Int.add_sub_cancel, aR_34, aR_19, sR_19, gR_0_0, pR_0, gI_0, pI_0, iO_0, gR_0_1, gR_0_3, gR_0_4, gR_0_5, gR_0_6, gR_0_7, gR_0_8, gR_0_9, gR_0_10, gR_0_11, gR_0_1, gI_0, pI_0, hz, iO_B, e, e0, WI_pos, WI_neg]
  refine ⟨_, rfl, ?_, ⟨?_, ?_⟩, ?_⟩
  · refine St_congr hV (fun k hk hk' => ?_) hS
    rw [up_row (by omega)]; exact h2 k (by omega)
  · rw [up_same]
  · intro j hj
    by_cases h5 : (j : Int) = n
    · have e5 : j = n.toNat := by omega
      unfold hsP; rw [if_pos hn, if_pos h5]
      refine ⟨hV, ?_⟩
      rw [e5]
      exact St_congr hV (fun k hk hk' => up_row (by omega) _ _ _) h1
    · unfold hsP; rw [if_pos hn, if_neg h5]
      obtain ⟨a1, a2⟩ := hH j (by omega)
      refine ⟨a1, St_congr a1 (fun k hk hk' => ?_) a2⟩
      have hbj := hp.1 (j + 1) (by omega)
      have hsj := isB_sep hbj hb1 (hp.2 (j + 1) (n.toNat + 1) (by omega) (by omega) (by omega))
      have rj := isB_r hbj
      rw [up_row (by omega)]; exact h2 k (by omega)
  · intro k hk hk'
    rw [up_row (by omega)]; exact h2 k (by omega)
theorem g_save {n : Int} {σ : Int → Int} {h : Int → Int → Int} (hp : PB p) (hn0 : 0 ≤ n) (hn : n ≤ 6) (hV : V σ) (hS : St z (p 0) σ) (hH : Hs z p n h) : WP (f_X11_saveState 0 (M p z l)) (fun μ => ∃ p' z', μ = M p' z' l ∧ PB p' ∧ p' 0 = p 0 ∧ St z' (p 0) σ ∧ Hs z' p' (hsN n) (hsP n h σ) ∧ ∀ k, 18 < k → (k < 57 ∨ 165 ≤ k) → z' k = z k) := by
  have hz := hH.1
  unfold f_X11_saveState
  by_cases h6 : n < 6
  · simp (disch := first | assumption | omega) only [↓b_hid, bH_some, ↓hid_W, ↓W_ite, WI_t, WI_f, W_some, I3_a, I3_s, I3_m, I3_n, I3_l, I3_lt, I3_le, I3_e, I3_dv, I3_rm, I3_mx, I3_mn, I3_ab, cI, bI_0, bI_1, rZ_b, up_same, up_row, up_col, xr_some, LQ_r, LQ_l, Int.sub_self, Int.add_zero, Int.zero_add, Int.sub_zero, Int.neg_neg, not_true_eq_false, not_false_eq_true, Int.add_sub_cancel, aR_34, aR_19, sR_19, gR_0_0, pR_0, gI_0, pI_0, iO_0, gR_0_1, gR_0_3, gR_0_4, gR_0_5, gR_0_6, gR_0_7, gR_0_8, gR_0_9, gR_0_10, gR_0_11, gI_0, hz, WI_pos, WI_neg]
    refine W_imp (g_save56 hp hn0 h6 hV hS hH) ?_
    rintro μ ⟨z', rfl, h1, h2, h3⟩
    refine ⟨p, z', rfl, hp, rfl, h1, ?_, h3⟩
    unfold hsN; rw [if_pos h6]; exact h2
  · have hn6 : n = 6 := by omega
    subst hn6
    simp (disch := first | assumption | omega) only [↓b_hid, bH_some, ↓hid_W, ↓W_ite, WI_t, WI_f, W_some, I3_a, I3_s, I3_m, I3_n, I3_l, I3_lt, I3_le, I3_e, I3_dv, I3_rm, I3_mx, I3_mn, I3_ab, cI, bI_0, bI_1, rZ_b, up_same, up_row, up_col, xr_some, LQ_r, LQ_l, Int.sub_self, Int.add_zero, Int.zero_add, Int.sub_zero, Int.neg_neg, not_true_eq_false, not_false_eq_true, Int.add_sub_cancel, aR_34, aR_19, sR_19, gR_0_0, pR_0, gI_0, pI_0, iO_0, gR_0_1, gR_0_3, gR_0_4, gR_0_5, gR_0_6, gR_0_7, gR_0_8, gR_0_9, gR_0_10, gR_0_11, gI_0, gR_0_1, hz, WI_pos, WI_neg]
    unfold f_X11_saveState_18
    refine lp_W (fun m s => ∃ (i : Nat) (p' : Nat → Nat), s = (0, p 1, I3 i, M p' z l) ∧ 1 ≤ i ∧ i ≤ 6 ∧ m = 6 - i ∧ (∀ j, j < 7 → p' j = if 1 ≤ j ∧ j < i then p (j + 1) else p j)) (fun m s hs => ?_) ⟨1, p, ?_, by omega, by omega, rfl, ?_⟩
    · obtain ⟨i, p', rfl, hi1, hi6, rfl, hp'⟩ := hs
      unfold f_X11_saveState_18_b
      by_cases hi : i < 6
      · have e4 : (i : Int).toNat = i := Int.toNat_natCast i
        have e5 : p' (i + 1) = p (i + 1) := by rw [hp' (i + 1) (by omega), if_neg (by omega)]
        have hb := hp.1 (i + 1) (by omega)
        have e6 : ((i : Int) - 1).toNat + 1 = i := by omega
        simp (disch := first | assumption | omega) only [↓b_hid, bH_some, ↓hid_W, ↓W_ite, WI_t, WI_f, W_some, I3_a, I3_s, I3_m, I3_n, I3_l, I3_lt, I3_le, I3_e, I3_dv, I3_rm, I3_mx, I3_mn, I3_ab, cI, bI_0, bI_1, rZ_b, up_same, up_row, up_col, xr_some, LQ_r, LQ_l, Int.sub_self, Int.add_zero, Int.zero_add, Int.sub_zero, Int.neg_neg, not_true_eq_false, not_false_eq_true, Int.add_sub_cancel, aR_34, aR_19, sR_19, gR_0_0, pR_0, gI_0, pI_0, iO_0, gR_0_1, gR_0_3, gR_0_4, gR_0_5, gR_0_6, gR_0_7, gR_0_8, gR_0_9, gR_0_10, gR_0_11, gR_0_1, e4, e5, e6, WI_pos, WI_neg]
        refine ⟨6 - (i + 1), by omega, i + 1, _, rfl, by omega, by omega, rfl, ?_⟩
        intro j hj
        by_cases hji : j = i
        · subst hji; rw [upP_same, if_pos (by omega)]
        · rw [upP_ne hji, hp' j hj]
          by_cases h7 : 1 ≤ j ∧ j < i
          · rw [if_pos h7, if_pos (by omega)]
          · rw [if_neg h7, if_neg (by omega)]
      · have : i = 6 := by omega
        subst this
        have hb := hp.1 1 (by omega)
        have e6 : ((5 : Int)).toNat + 1 = 6 := rfl
        simp (disch := first | assumption | omega) only [↓b_hid, bH_some, ↓hid_W, ↓W_ite, WI_t, WI_f, W_some, I3_a, I3_s, I3_m, I3_n, I3_l, I3_lt, I3_le, I3_e, I3_dv, I3_rm, I3_mx, I3_mn, I3_ab, cI, bI_0, bI_1, rZ_b, up_same, up_row, up_col, xr_some, LQ_r, LQ_l, Int.sub_self, Int.add_zero, Int.zero_add, Int.sub_zero, Int.neg_neg, not_true_eq_false, not_false_eq_true, Int.add_sub_cancel, aR_34, aR_19, sR_19, gR_0_0, pR_0, gI_0, pI_0, iO_0, gR_0_1, gR_0_3, gR_0_4, gR_0_5, gR_0_6, gR_0_7, gR_0_8, gR_0_9, gR_0_10, gR_0_11, f_X11_saveState_44, gR_0_1, pI_0, e6, WI_pos, WI_neg]
        refine W_xr ?_
        have q0 : ∀ j, j < 7 → upP p' 6 (p 1) j = if j = 0 then p 0 else if j = 6 then p 1 else p (j + 1) := by
          intro j hj
          by_cases h1 : j = 6
          · subst h1; rw [upP_same]; rfl
          · rw [upP_ne h1, hp' j hj]
            by_cases h0 : j = 0
            · subst h0; rfl
            · rw [if_pos (by omega), if_neg h0, if_neg h1]
        have qB : PB (upP p' 6 (p 1)) := by
          constructor
          · intro j hj; rw [q0 j hj]
            split
            · exact hp.1 0 (by omega)
            · split
              · exact hp.1 1 (by omega)
              · exact hp.1 _ (by omega)
          · intro i j hi hj hij
            rw [q0 i hi, q0 j hj]
            have H : ∀ a b, a < 7 → b < 7 → a ≠ b → p a ≠ p b := hp.2
            by_cases i0 : i = 0
            · rw [if_pos i0, if_neg (by omega)]
              split
              · exact H _ _ (by omega) (by omega) (by omega)
              · exact H _ _ (by omega) (by omega) (by omega)
            · rw [if_neg i0]
              by_cases j0 : j = 0
              · rw [if_pos j0]
                split
                · exact H _ _ (by omega) (by omega) (by omega)
                · exact H _ _ (by omega) (by omega) (by omega)
              · rw [if_neg j0]
                split
                · rw [if_neg (by omega)]; exact H _ _ (by omega) (by omega) (by omega)
                · split
                  · exact H _ _ (by omega) (by omega) (by omega)
                  · exact H _ _ (by omega) (by omega) (by omega)
        have e0 : upP p' 6 (p 1) 0 = p 0 := q0 0 (by omega)
        have r0 := isB_r (hp.1 0 (by omega))
        have hS' : St (up z 0 2 5) (upP p' 6 (p 1) 0) σ := by
          rw [e0]; exact St_congr hV (fun k hk hk' => up_row (by omega) _ _ _) hS
        have hH' : Hs (up z 0 2 5) (upP p' 6 (p 1)) 5 (fun j => h (j + 1)) := by
          refine ⟨up_same _ _ _ _, ?_⟩
          intro j hj
          obtain ⟨a1, a2⟩ := hH.2 (j + 1) (by omega)
          have ej : ((j + 1 : Nat) : Int) = (j : Int) + 1 := by omega
          rw [ej] at a1 a2
          refine ⟨a1, ?_⟩
          rw [q0 (j + 1) (by omega), if_neg (by omega), if_neg (by omega)]
          have rj := isB_r (hp.1 (j + 1 + 1) (by omega))
          exact St_congr a1 (fun k hk hk' => up_row (by omega) _ _ _) a2
        refine W_imp (g_save56 (l := l) qB (by omega) (by omega) hV hS' hH') ?_
        rintro μ ⟨z', rfl, h1, h2, h3⟩
        refine ⟨_, z', rfl, qB, e0, ?_, ?_, ?_⟩
        · rw [e0] at h1; exact h1
        · have : hsP 5 (fun j => h (j + 1)) σ = hsP 6 h σ := by
            funext j; unfold hsP; simp only [show (5 : Int) < 6 from by decide, show ¬(6 : Int) < 6 from by decide, if_true, if_false]
          rw [this] at h2; exact h2
        · intro k hk hk'; rw [h3 k hk hk']; exact up_row (by omega) _ _ _
    · rfl
    · intro j hj; rw [if_neg (by omega)]
end
