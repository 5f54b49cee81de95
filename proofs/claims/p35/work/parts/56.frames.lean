/-! The frames of a train: the list that both sides find; the class's FrameList. -/
def fsE (n : Int) : Int := if n % 2 = 1 then n else n - 1
def fsl (d : Int → Int) (gap E : Int) : Nat → Int → Int → List (Int × Int)
  | 0, _, _ => []
  | m + 1, k, a => if k < E then (if gap < d k then (a, k - a) :: fsl d gap E m (k + 2) (k + 1) else fsl d gap E m (k + 2) a) else [(a, E - a)]
def FS (d : Int → Int) (n gap : Int) : List (Int × Int) := if n = 0 then [] else fsl d gap (fsE n) 200 1 0
def gl (L : List (Int × Int)) (i : Nat) : Int × Int := L.getD i (0, 0)
theorem gl_app {L : List (Int × Int)} {x : Int × Int} {i : Nat} : gl (L ++ [x]) i = if i < L.length then gl L i else if i = L.length then x else (0, 0) := by
  unfold gl
  simp only [List.getD_eq_getElem?_getD]
  by_cases h : i < L.length
  · rw [if_pos h, List.getElem?_append_left h]
  · rw [if_neg h, List.getElem?_append_right (by omega)]
    by_cases h2 : i = L.length
    · rw [if_pos h2, h2]; simp
    · rw [if_neg h2]
      have : 1 ≤ i - L.length := by omega
      rw [List.getElem?_eq_none (by simpa using this)]; rfl
/-- a frame of a train of n durations -/
def fsG (n : Int) (x : Int × Int) : Prop := 0 ≤ x.1 ∧ x.1 % 2 = 0 ∧ 1 ≤ x.2 ∧ x.2 % 2 = 1 ∧ x.1 + x.2 ≤ n
theorem fsE_r {n : Int} (h : 0 < n) : 1 ≤ n ∧ (n = 0 ∨ 1 ≤ fsE n) ∧ fsE n ≤ n ∧ fsE n % 2 = 1 := by unfold fsE; split <;> omega
theorem fsl_g {d : Int → Int} {gap n : Int} (hn : 0 < n) : ∀ (m : Nat) (k a : Int), 0 ≤ a → a < k → k % 2 = 1 → a % 2 = 0 → k ≤ fsE n → ∀ x ∈ fsl d gap (fsE n) m k a, fsG n x
  | 0, k, a, _, _, _, _, _, x, hx => by simp [fsl] at hx
  | m + 1, k, a, h0, h1, h2, h3, h4, x, hx => by
    have hE := fsE_r hn
    unfold fsl at hx
    split at hx
    · split at hx
      · rcases List.mem_cons.mp hx with rfl | hx
        · unfold fsG; simp only; omega
        · exact fsl_g hn m (k + 2) (k + 1) (by omega) (by omega) (by omega) (by omega) (by omega) x hx
      · exact fsl_g hn m (k + 2) a h0 (by omega) (by omega) h3 (by omega) x hx
    · simp only [List.mem_singleton] at hx
      subst hx
      unfold fsG; simp only; omega
theorem gl_mem {L : List (Int × Int)} {i : Nat} (h : i < L.length) : gl L i ∈ L := by
  unfold gl
  rw [List.getD_eq_getElem?_getD, List.getElem?_eq_getElem h]
  exact List.getElem_mem h
theorem FS_g {d : Int → Int} {n gap : Int} (h0 : 0 ≤ n) {i : Nat} (hi : i < (FS d n gap).length) : fsG n (gl (FS d n gap) i) := by
  have hm := gl_mem hi
  unfold FS at hm hi ⊢
  split at hm
  · rename_i h; rw [if_pos h] at hi; simp at hi
  · rename_i h
    rw [if_neg h]
    refine fsl_g (by omega) 200 1 0 (by omega) (by omega) (by omega) (by omega) ?_ _ hm
    have := fsE_r (show 0 < n by omega); omega
theorem fsl_len2 {d : Int → Int} {gap E : Int} (hE : E % 2 = 1) : ∀ (m : Nat) (k a : Int), k % 2 = 1 → k ≤ E → 2 * ((fsl d gap E m k a).length : Int) ≤ E - k + 2
  | 0, k, a, _, h => by simp [fsl]; omega
  | m + 1, k, a, h1, h => by
    unfold fsl
    split
    · have h1 := fsl_len2 (d := d) (gap := gap) hE m (k + 2) (k + 1) (by omega) (by omega)
      have h2 := fsl_len2 (d := d) (gap := gap) hE m (k + 2) a (by omega) (by omega)
      split
      · simp only [List.length_cons]; omega
      · omega
    · simp; omega
theorem FS_len {d : Int → Int} {n gap : Int} (h0 : 0 ≤ n) (h1 : n ≤ 200) : (FS d n gap).length ≤ 100 := by
  unfold FS
  split
  · simp
  · have hE := fsE_r (show 0 < n by omega)
    have := fsl_len2 (d := d) (gap := gap) hE.2.2.2 200 1 0 (by omega) (by omega)
    omega
theorem fsl_ne {d : Int → Int} {gap E : Int} : ∀ (m : Nat) (k a : Int), E < k + 2 * m → fsl d gap E (m + 1) k a ≠ []
  | 0, k, a, h => by unfold fsl; rw [if_neg (by omega)]; simp
  | m + 1, k, a, h => by
    unfold fsl; split
    · split
      · simp
      · exact fsl_ne m (k + 2) a (by omega)
    · simp
theorem FS_pos {d : Int → Int} {n gap : Int} (h0 : 0 < n) (h1 : n ≤ 200) : 0 < (FS d n gap).length := by
  unfold FS
  rw [if_neg (by omega)]
  have := fsE_r h0
  exact List.length_pos_iff.mpr (fsl_ne 199 1 0 (by omega))
theorem fsl_first {d : Int → Int} {gap E : Int} : ∀ (m : Nat) (k a : Int), E < k + 2 * m → (gl (fsl d gap E (m + 1) k a) 0).1 = a
  | 0, k, a, h => by unfold fsl; rw [if_neg (by omega)]; rfl
  | m + 1, k, a, h => by
    unfold fsl; split
    · split
      · rfl
      · exact fsl_first m (k + 2) a (by omega)
    · rfl
theorem FS_first {d : Int → Int} {n gap : Int} (h0 : 0 < n) (h1 : n ≤ 200) : (gl (FS d n gap) 0).1 = 0 := by
  unfold FS
  rw [if_neg (by omega)]
  have := fsE_r h0
  exact fsl_first 199 1 0 (by omega)
theorem fsl_ge {d : Int → Int} {gap E : Int} : ∀ (m : Nat) (k a : Int), a < k → ∀ i, i < (fsl d gap E m k a).length → a ≤ (gl (fsl d gap E m k a) i).1
  | 0, k, a, _, i, h => by simp [fsl] at h
  | m + 1, k, a, h1, i, h => by
    unfold fsl at h ⊢
    split at h
    · rename_i hk
      rw [if_pos hk]
      split at h
      · rename_i hd
        rw [if_pos hd]
        cases i with
        | zero => exact Int.le_refl a
        | succ i =>
          simp only [List.length_cons] at h
          have := fsl_ge (d := d) (gap := gap) (E := E) m (k + 2) (k + 1) (by omega) i (by omega)
          exact Int.le_trans (by omega) this
      · rename_i hd
        rw [if_neg hd]
        exact fsl_ge m (k + 2) a (by omega) i h
    · rename_i hk
      rw [if_neg hk]
      have : i = 0 := by simpa using h
      subst this; exact Int.le_refl a
theorem fsl_next {d : Int → Int} {gap E : Int} : ∀ (m : Nat) (k a : Int), 0 ≤ a → a < k → ∀ i, i + 1 < (fsl d gap E m k a).length → a + 1 ≤ (gl (fsl d gap E m k a) (i + 1)).1
  | 0, k, a, _, _, i, h => by simp [fsl] at h
  | m + 1, k, a, h0, h1, i, h => by
    unfold fsl at h ⊢
    split at h
    · rename_i hk
      rw [if_pos hk]
      split at h
      · rename_i hd
        rw [if_pos hd]
        simp only [List.length_cons] at h
        show a + 1 ≤ (gl (fsl d gap E m (k + 2) (k + 1)) i).1
        cases i with
        | zero =>
          cases m with
          | zero => simp [fsl] at h
          | succ m =>
            have : k + 1 ≤ (gl (fsl d gap E (m + 1) (k + 2) (k + 1)) 0).1 := fsl_ge (m + 1) (k + 2) (k + 1) (by omega) 0 (by omega)
            omega
        | succ i =>
          have := fsl_next (d := d) (gap := gap) (E := E) m (k + 2) (k + 1) (by omega) (by omega) i (by omega)
          omega
      · rename_i hd
        rw [if_neg hd]
        exact fsl_next m (k + 2) a h0 (by omega) i h
    · simp at h
theorem FS_next {d : Int → Int} {n gap : Int} {i : Nat} (h : i + 1 < (FS d n gap).length) : 1 ≤ (gl (FS d n gap) (i + 1)).1 := by
  unfold FS at h ⊢
  split at h
  · simp at h
  · rename_i hn
    rw [if_neg hn]
    have := fsl_next 200 1 0 (by omega) (by omega) i h
    omega
section
variable {p : Nat → Nat} {z l : Nat → Int → Int}
def FL (z : Nat → Int → Int) (L : List (Int × Int)) : Prop := z 35 2 = L.length ∧ ∀ i : Nat, i < L.length → z 36 i = (gl L i).1 ∧ z 37 i = (gl L i).2
def Fs (z : Nat → Int → Int) (n : Int) (d : Int → Int) (gap : Int) : Prop := Tr z 38 n d ∧ FL z (FS d n gap)
/-- only the FrameList is other -/
def FrF (z z' : Nat → Int → Int) : Prop := ∀ k, k < 35 ∨ 40 ≤ k → z' k = z k
theorem w_fnote {L : List (Int × Int)} {a b : Int} (h : FL z L) (hL : L.length < 100) : WP (f_X3_note 35 (I3 a) (I3 b) (M p z l)) (fun μ => ∃ z', μ = M p z' l ∧ FL z' (L ++ [(a, b)]) ∧ ∀ k, k < 35 ∨ 38 ≤ k → z' k = z k) := by
  obtain ⟨e, h⟩ := h
  unfold f_X3_note
  simp (disch := first | assumption | omega) only [↓b_hid, bH_some, ↓hid_W, ↓W_ite, WI_t, WI_f, W_some, I3_a, I3_s, I3_m, I3_n, I3_l, I3_lt, I3_le, I3_e, I3_dv, I3_rm, I3_mx, I3_mn, I3_ab, cI, bI_0, bI_1, rZ_b, up_same, up_row, up_col, xr_some, LQ_r, LQ_l, Int.sub_self, Int.add_zero, Int.zero_add, Int.sub_zero, Int.neg_neg, not_true_eq_false, not_false_eq_true, Int.add_sub_cancel, gI_35, pI_35, iO_35, gR_35_0, aI_36, sI_36, gR_35_1, aI_37, sI_37, gR_35_3, e, WI_pos, WI_neg]
  refine ⟨_, rfl, ⟨?_, ?_⟩, ?_⟩
  · rw [up_same, List.length_append]; simp
  · intro i hi
    rw [List.length_append] at hi
    simp only [List.length_cons, List.length_nil] at hi
    rw [gl_app]
    by_cases h1 : i < L.length
    · rw [if_pos h1]
      exact ⟨by rw [up_row (by decide), up_row (by decide), up_col (by omega)]; exact (h i h1).1, by rw [up_row (by decide), up_col (by omega), up_row (by decide)]; exact (h i h1).2⟩
    · have : i = L.length := by omega
      subst this
      rw [if_neg h1, if_pos rfl]
      exact ⟨by rw [up_row (by decide), up_row (by decide), up_same], by rw [up_row (by decide), up_same]⟩
  · intro k hk
    rw [up_row (by omega), up_row (by omega), up_row (by omega)]
theorem w_split {t : Nat} {n gap : Int} {d : Int → Int} (ht : isT t) (ht1 : 38 ≠ t) (ht2 : 38 ≠ t + 1) (hx : Tr z t n d) (h0 : 0 ≤ n) (h1 : n ≤ 200) (hg : -2147483648 ≤ gap) (hg' : gap < 2147483648) (hd : ∀ i, 0 ≤ i → i < n → 0 ≤ d i ∧ d i < 2147483648) : WP (f_X3_split 35 t (I3 gap) (M p z l)) (fun μ => ∃ z', μ = M p z' l ∧ Fs z' n d gap ∧ FrF z z') := by
  obtain ⟨e, hx⟩ := hx
  have hc := isT_38
  have hz : z t 1 = n := e
  unfold f_X3_split
  have e2 := g_tcopy (p := p) (z := z) (l := l) hc ht ht1 ht2 (by omega) (by omega)
  simp (disch := first | assumption | omega) only [↓b_hid, bH_some, ↓hid_W, ↓W_ite, WI_t, WI_f, W_some, I3_a, I3_s, I3_m, I3_n, I3_l, I3_lt, I3_le, I3_e, I3_dv, I3_rm, I3_mx, I3_mn, I3_ab, cI, bI_0, bI_1, rZ_b, up_same, up_row, up_col, xr_some, LQ_r, LQ_l, Int.sub_self, Int.add_zero, Int.zero_add, Int.sub_zero, Int.neg_neg, not_true_eq_false, not_false_eq_true, Int.add_sub_cancel, gI_35, pI_35, iO_35, gR_35_0, aI_36, sI_36, gR_35_1, aI_37, sI_37, gR_35_3, iO_T, e2, gI_T, cpr_row, hz]
  generalize hz1 : up (cpr (up z 38 1 n) (t + 1) (38 + 1) n) 35 2 0 = z1
  have hT1 : Tr z1 38 n d := by
    subst hz1
    refine ⟨by rw [up_row (by decide), cpr_row (by decide), up_same], fun i hi hi' => ?_⟩
    rw [up_row (by decide), cpr_in rfl hi hi', up_row (by omega)]
    exact hx i hi hi'
  have hF1 : FrF z z1 := by
    subst hz1
    intro k hk
    rw [up_row (by omega), cpr_row (by omega), up_row (by omega)]
  have hL1 : FL z1 [] := by
    subst hz1
    exact ⟨by rw [up_same]; rfl, fun i hi => by simp at hi⟩
  have key : ∀ E : Int, E = fsE n → 0 < n → WP (f_X3_split_53 35 (I3 gap) (I3 E) (M p z1 l)) (fun μ => ∃ z', μ = M p z' l ∧ Fs z' n d gap ∧ FrF z z') := by
    intro E hEq hn
    have hE := fsE_r hn
    rw [← hEq] at hE
    have hFS : FS d n gap = [] ++ fsl d gap E 200 1 0 := by unfold FS; rw [if_neg (by omega), hEq]; rfl
    unfold f_X3_split_53 f_X3_split_60
    refine lp_W (fun m s => ∃ (f : Nat) (k a : Int) (L : List (Int × Int)) (z' : Nat → Int → Int), s = (35, I3 gap, I3 E, I3 a, I3 k, M p z' l) ∧ 1 ≤ k ∧ k % 2 = 1 ∧ k ≤ E ∧ 0 ≤ a ∧ a ≤ k ∧ m = (E - k).toNat ∧ E - k < 2 * f ∧ 2 * (L.length : Int) ≤ k - 1 ∧ FS d n gap = L ++ fsl d gap E f k a ∧ FL z' L ∧ Tr z' 38 n d ∧ FrF z z') (fun m s hs => ?_) ⟨200, 1, 0, [], z1, rfl, by omega, by omega, by omega, by omega, by omega, rfl, by omega, by simp, hFS, hL1, hT1, hF1⟩
    obtain ⟨f, k, a, L, z', rfl, k1, k2, k3, a1, a2, rfl, hf, hLl, hS, hL, hT, hF⟩ := hs
    obtain ⟨f, rfl⟩ : ∃ f', f = f' + 1 := ⟨f - 1, by omega⟩
    have t1 : z' 38 1 = n := hT.1
    unfold fsl at hS
    unfold f_X3_split_60_b
    by_cases hk : k < E
    · rw [if_pos hk] at hS
      obtain ⟨d1, d2⟩ := hd k (by omega) (by omega)
      have e4 : tat z' 38 k = d k := by rw [tat_in (by omega) (by omega)]; exact hT.2 k (by omega) (by omega)
      have g4 := g_at (p := p) (l := l) (i := k) hc (show 0 ≤ z' 38 1 by omega) (by omega) (by omega) (by omega)
      rw [e4] at g4
      simp (disch := first | assumption | omega) only [↓b_hid, bH_some, ↓hid_W, ↓W_ite, WI_t, WI_f, W_some, I3_a, I3_s, I3_m, I3_n, I3_l, I3_lt, I3_le, I3_e, I3_dv, I3_rm, I3_mx, I3_mn, I3_ab, cI, bI_0, bI_1, rZ_b, up_same, up_row, up_col, xr_some, LQ_r, LQ_l, Int.sub_self, Int.add_zero, Int.zero_add, Int.sub_zero, Int.neg_neg, not_true_eq_false, not_false_eq_true, Int.add_sub_cancel, gI_35, pI_35, iO_35, gR_35_0, aI_36, sI_36, gR_35_1, aI_37, sI_37, gR_35_3, iO_T, g4, WI_pos, WI_neg]
      refine WI_i (fun h => ?_) (fun h => ?_)
      · rw [if_neg (by omega)] at hS
        simp (disch := first | assumption | omega) only [↓b_hid, bH_some, ↓hid_W, ↓W_ite, WI_t, WI_f, W_some, I3_a, I3_s, I3_m, I3_n, I3_l, I3_lt, I3_le, I3_e, I3_dv, I3_rm, I3_mx, I3_mn, I3_ab, cI, bI_0, bI_1, rZ_b, up_same, up_row, up_col, xr_some, LQ_r, LQ_l, Int.sub_self, Int.add_zero, Int.zero_add, Int.sub_zero, Int.neg_neg, not_true_eq_false, not_false_eq_true, Int.add_sub_cancel, f_X3_split_96]
        exact ⟨_, by omega, f, k + 2, a, L, z', rfl, by omega, by omega, by omega, a1, by omega, rfl, by omega, by omega, hS, hL, hT, hF⟩
      · rw [if_pos (by omega)] at hS
        simp (disch := first | assumption | omega) only [↓b_hid, bH_some, ↓hid_W, ↓W_ite, WI_t, WI_f, W_some, I3_a, I3_s, I3_m, I3_n, I3_l, I3_lt, I3_le, I3_e, I3_dv, I3_rm, I3_mx, I3_mn, I3_ab, cI, bI_0, bI_1, rZ_b, up_same, up_row, up_col, xr_some, LQ_r, LQ_l, Int.sub_self, Int.add_zero, Int.zero_add, Int.sub_zero, Int.neg_neg, not_true_eq_false, not_false_eq_true, Int.add_sub_cancel, gI_35, pI_35, iO_35, gR_35_0, aI_36, sI_36, gR_35_1, aI_37, sI_37, gR_35_3]
        refine W_bH (W_imp (w_fnote hL (by omega)) ?_)
        rintro _ ⟨z2, rfl, b1, b2⟩
        simp (disch := first | assumption | omega) only [↓b_hid, bH_some, ↓hid_W, ↓W_ite, WI_t, WI_f, W_some, I3_a, I3_s, I3_m, I3_n, I3_l, I3_lt, I3_le, I3_e, I3_dv, I3_rm, I3_mx, I3_mn, I3_ab, cI, bI_0, bI_1, rZ_b, up_same, up_row, up_col, xr_some, LQ_r, LQ_l, Int.sub_self, Int.add_zero, Int.zero_add, Int.sub_zero, Int.neg_neg, not_true_eq_false, not_false_eq_true, Int.add_sub_cancel, f_X3_split_96]
        refine ⟨_, by omega, f, k + 2, k + 1, L ++ [(a, k - a)], z2, rfl, by omega, by omega, by omega, by omega, by omega, rfl, by omega, ?_, ?_, b1, Tr_congr (b2 _ (by decide)) (b2 _ (by decide)) hT, fun k hk => (b2 k (by omega)).trans (hF k hk)⟩
        · rw [List.length_append]; simp; omega
        · rw [hS, List.append_assoc]; rfl
    · rw [if_neg hk] at hS
      simp (disch := first | assumption | omega) only [↓b_hid, bH_some, ↓hid_W, ↓W_ite, WI_t, WI_f, W_some, I3_a, I3_s, I3_m, I3_n, I3_l, I3_lt, I3_le, I3_e, I3_dv, I3_rm, I3_mx, I3_mn, I3_ab, cI, bI_0, bI_1, rZ_b, up_same, up_row, up_col, xr_some, LQ_r, LQ_l, Int.sub_self, Int.add_zero, Int.zero_add, Int.sub_zero, Int.neg_neg, not_true_eq_false, not_false_eq_true, Int.add_sub_cancel, gI_35, pI_35, iO_35, gR_35_0, aI_36, sI_36, gR_35_1, aI_37, sI_37, gR_35_3, WI_pos, WI_neg]
      refine W_xr ?_
      unfold f_X3_split_102
      simp (disch := first | assumption | omega) only [↓b_hid, bH_some, ↓hid_W, ↓W_ite, WI_t, WI_f, W_some, I3_a, I3_s, I3_m, I3_n, I3_l, I3_lt, I3_le, I3_e, I3_dv, I3_rm, I3_mx, I3_mn, I3_ab, cI, bI_0, bI_1, rZ_b, up_same, up_row, up_col, xr_some, LQ_r, LQ_l, Int.sub_self, Int.add_zero, Int.zero_add, Int.sub_zero, Int.neg_neg, not_true_eq_false, not_false_eq_true, Int.add_sub_cancel, gI_35, pI_35, iO_35, gR_35_0, aI_36, sI_36, gR_35_1, aI_37, sI_37, gR_35_3, LQ_r]
      refine W_bH (W_imp (w_fnote hL (by omega)) ?_)
      rintro _ ⟨z2, rfl, b1, b2⟩
      simp (disch := first | assumption | omega) only [↓b_hid, bH_some, ↓hid_W, ↓W_ite, WI_t, WI_f, W_some, I3_a, I3_s, I3_m, I3_n, I3_l, I3_lt, I3_le, I3_e, I3_dv, I3_rm, I3_mx, I3_mn, I3_ab, cI, bI_0, bI_1, rZ_b, up_same, up_row, up_col, xr_some, LQ_r, LQ_l, Int.sub_self, Int.add_zero, Int.zero_add, Int.sub_zero, Int.neg_neg, not_true_eq_false, not_false_eq_true, Int.add_sub_cancel]
      exact ⟨z2, rfl, ⟨Tr_congr (b2 _ (by decide)) (b2 _ (by decide)) hT, by rw [hS]; exact b1⟩, fun k hk => (b2 k (by omega)).trans (hF k hk)⟩
  by_cases hn : n = 0
  · subst hn
    simp (disch := first | assumption | omega) only [↓b_hid, bH_some, ↓hid_W, ↓W_ite, WI_t, WI_f, W_some, I3_a, I3_s, I3_m, I3_n, I3_l, I3_lt, I3_le, I3_e, I3_dv, I3_rm, I3_mx, I3_mn, I3_ab, cI, bI_0, bI_1, rZ_b, up_same, up_row, up_col, xr_some, LQ_r, LQ_l, Int.sub_self, Int.add_zero, Int.zero_add, Int.sub_zero, Int.neg_neg, not_true_eq_false, not_false_eq_true, Int.add_sub_cancel, WI_pos, WI_neg]
    exact ⟨z1, rfl, ⟨hT1, by unfold FS; rw [if_pos rfl]; exact hL1⟩, hF1⟩
  · have t1 : z1 38 1 = n := hT1.1
    have g5 := g_ewm (p := p) (l := l) hc (show 0 ≤ z1 38 1 by omega) (by omega)
    rw [t1] at g5
    simp (disch := first | assumption | omega) only [↓b_hid, bH_some, ↓hid_W, ↓W_ite, WI_t, WI_f, W_some, I3_a, I3_s, I3_m, I3_n, I3_l, I3_lt, I3_le, I3_e, I3_dv, I3_rm, I3_mx, I3_mn, I3_ab, cI, bI_0, bI_1, rZ_b, up_same, up_row, up_col, xr_some, LQ_r, LQ_l, Int.sub_self, Int.add_zero, Int.zero_add, Int.sub_zero, Int.neg_neg, not_true_eq_false, not_false_eq_true, Int.add_sub_cancel, gI_35, pI_35, iO_35, gR_35_0, aI_36, sI_36, gR_35_1, aI_37, sI_37, gR_35_3, iO_T, g5, gI_T, t1, WI_pos, WI_neg]
    refine WI_i (fun h => ?_) (fun h => ?_)
    · simp (disch := first | assumption | omega) only [↓b_hid, bH_some, ↓hid_W, ↓W_ite, WI_t, WI_f, W_some, I3_a, I3_s, I3_m, I3_n, I3_l, I3_lt, I3_le, I3_e, I3_dv, I3_rm, I3_mx, I3_mn, I3_ab, cI, bI_0, bI_1, rZ_b, up_same, up_row, up_col, xr_some, LQ_r, LQ_l, Int.sub_self, Int.add_zero, Int.zero_add, Int.sub_zero, Int.neg_neg, not_true_eq_false, not_false_eq_true, Int.add_sub_cancel, gI_35, pI_35, iO_35, gR_35_0, aI_36, sI_36, gR_35_1, aI_37, sI_37, gR_35_3, gI_T, t1]
      exact key (n - 1) (by unfold fsE; rw [if_neg h]) (by omega)
    · simp (disch := first | assumption | omega) only [↓b_hid, bH_some, ↓hid_W, ↓W_ite, WI_t, WI_f, W_some, I3_a, I3_s, I3_m, I3_n, I3_l, I3_lt, I3_le, I3_e, I3_dv, I3_rm, I3_mx, I3_mn, I3_ab, cI, bI_0, bI_1, rZ_b, up_same, up_row, up_col, xr_some, LQ_r, LQ_l, Int.sub_self, Int.add_zero, Int.zero_add, Int.sub_zero, Int.neg_neg, not_true_eq_false, not_false_eq_true, Int.add_sub_cancel, gI_35, pI_35, iO_35, gR_35_0, aI_36, sI_36, gR_35_1, aI_37, sI_37, gR_35_3, gI_T, t1]
      exact key n (by unfold fsE; rw [if_pos (by omega)]) (by omega)
theorem g_sizeOf {n gap : Int} {d : Int → Int} {i : Nat} (h : Fs z n d gap) (h0 : 0 ≤ n) (h1 : n ≤ 200) (hi : i < (FS d n gap).length) : f_X3_sizeOf 35 (I3 i) (M p z l) = some (I3 (gl (FS d n gap) i).2, M p z l) := by
  have hl := FS_len (d := d) (gap := gap) h0 h1
  obtain ⟨e, h⟩ := h.2
  apply W_eq; unfold f_X3_sizeOf; simp (disch := first | assumption | omega) only [↓b_hid, bH_some, ↓hid_W, ↓W_ite, WI_t, WI_f, W_some, I3_a, I3_s, I3_m, I3_n, I3_l, I3_lt, I3_le, I3_e, I3_dv, I3_rm, I3_mx, I3_mn, I3_ab, cI, bI_0, bI_1, rZ_b, up_same, up_row, up_col, xr_some, LQ_r, LQ_l, Int.sub_self, Int.add_zero, Int.zero_add, Int.sub_zero, Int.neg_neg, not_true_eq_false, not_false_eq_true, Int.add_sub_cancel, gI_35, pI_35, iO_35, gR_35_0, aI_36, sI_36, gR_35_1, aI_37, sI_37, gR_35_3, e, WI_pos, WI_neg]
  rw [(h i hi).2]
theorem g_sizeOf0 {n gap : Int} {d : Int → Int} (h : Fs z n d gap) (h0 : n = 0) : f_X3_sizeOf 35 (I3 0) (M p z l) = some (I3 0, M p z l) := by
  obtain ⟨e, h⟩ := h.2
  have e0 : FS d n gap = [] := by unfold FS; rw [if_pos h0]
  rw [e0] at e
  have e : z 35 2 = 0 := e
  apply W_eq; unfold f_X3_sizeOf; simp (disch := first | assumption | omega) only [↓b_hid, bH_some, ↓hid_W, ↓W_ite, WI_t, WI_f, W_some, I3_a, I3_s, I3_m, I3_n, I3_l, I3_lt, I3_le, I3_e, I3_dv, I3_rm, I3_mx, I3_mn, I3_ab, cI, bI_0, bI_1, rZ_b, up_same, up_row, up_col, xr_some, LQ_r, LQ_l, Int.sub_self, Int.add_zero, Int.zero_add, Int.sub_zero, Int.neg_neg, not_true_eq_false, not_false_eq_true, Int.add_sub_cancel, gI_35, pI_35, iO_35, gR_35_0, aI_36, sI_36, gR_35_1, aI_37, sI_37, gR_35_3, e, WI_pos, WI_neg]
theorem g_startOf {n gap : Int} {d : Int → Int} {i : Nat} (h : Fs z n d gap) (h0 : 0 ≤ n) (h1 : n ≤ 200) (hi : i < (FS d n gap).length) : f_X3_startOf 35 (I3 i) (M p z l) = some (I3 (gl (FS d n gap) i).1, M p z l) := by
  have hl := FS_len (d := d) (gap := gap) h0 h1
  obtain ⟨e, h⟩ := h.2
  apply W_eq; unfold f_X3_startOf; simp (disch := first | assumption | omega) only [↓b_hid, bH_some, ↓hid_W, ↓W_ite, WI_t, WI_f, W_some, I3_a, I3_s, I3_m, I3_n, I3_l, I3_lt, I3_le, I3_e, I3_dv, I3_rm, I3_mx, I3_mn, I3_ab, cI, bI_0, bI_1, rZ_b, up_same, up_row, up_col, xr_some, LQ_r, LQ_l, Int.sub_self, Int.add_zero, Int.zero_add, Int.sub_zero, Int.neg_neg, not_true_eq_false, not_false_eq_true, Int.add_sub_cancel, gI_35, pI_35, iO_35, gR_35_0, aI_36, sI_36, gR_35_1, aI_37, sI_37, gR_35_3, e, WI_pos, WI_neg]
  rw [(h i hi).1]
theorem g_durAt {n gap : Int} {d : Int → Int} {i : Nat} {k : Int} (h : Fs z n d gap) (h0 : 0 ≤ n) (h1 : n ≤ 200) (hi : i < (FS d n gap).length) (hk : 0 ≤ k) (hk' : k < (gl (FS d n gap) i).2) : f_X3_durationAt 35 (I3 i) (I3 k) (M p z l) = some (I3 (d ((gl (FS d n gap) i).1 + k)), M p z l) := by
  have hG := FS_g h0 hi
  obtain ⟨g1, g2, g3, g4, g5⟩ := hG
  have e1 := g_sizeOf (p := p) (l := l) h h0 h1 hi
  have e2 := g_startOf (p := p) (l := l) h h0 h1 hi
  have t1 : z 38 1 = n := h.1.1
  have hc := isT_38
  have e3 := g_at (p := p) (z := z) (l := l) (i := (gl (FS d n gap) i).1 + k) hc (by omega) (by omega) (by omega) (by omega)
  have e4 : tat z 38 ((gl (FS d n gap) i).1 + k) = d ((gl (FS d n gap) i).1 + k) := by
    rw [tat_in (by omega) (by omega)]; exact h.1.2 _ (by omega) (by omega)
  rw [e4] at e3
  apply W_eq; unfold f_X3_durationAt; simp (disch := first | assumption | omega) only [↓b_hid, bH_some, ↓hid_W, ↓W_ite, WI_t, WI_f, W_some, I3_a, I3_s, I3_m, I3_n, I3_l, I3_lt, I3_le, I3_e, I3_dv, I3_rm, I3_mx, I3_mn, I3_ab, cI, bI_0, bI_1, rZ_b, up_same, up_row, up_col, xr_some, LQ_r, LQ_l, Int.sub_self, Int.add_zero, Int.zero_add, Int.sub_zero, Int.neg_neg, not_true_eq_false, not_false_eq_true, Int.add_sub_cancel, gI_35, pI_35, iO_35, gR_35_0, aI_36, sI_36, gR_35_1, aI_37, sI_37, gR_35_3, e1, e2, e3, iO_T, WI_pos, WI_neg]
theorem g_spB {n gap : Int} {d : Int → Int} {i : Nat} (h : Fs z n d gap) (h0 : 0 ≤ n) (h1 : n ≤ 200) (hi : i < (FS d n gap).length) : f_X3_spaceBefore 35 (I3 i) (M p z l) = some (I3 (if i = 0 then 0 else d ((gl (FS d n gap) i).1 - 1)), M p z l) := by
  have hG := FS_g h0 hi
  obtain ⟨g1, g2, g3, g4, g5⟩ := hG
  have e2 := g_startOf (p := p) (l := l) h h0 h1 hi
  have t1 : z 38 1 = n := h.1.1
  have hc := isT_38
  have e3 := g_at (p := p) (z := z) (l := l) (i := (gl (FS d n gap) i).1 - 1) hc (by omega) (by omega) (by omega) (by omega)
  have e4 : tat z 38 ((gl (FS d n gap) i).1 - 1) = if i = 0 then 0 else d ((gl (FS d n gap) i).1 - 1) := by
    cases i with
    | zero =>
      have hp : 0 < n := by
        have : n ≠ 0 := by intro hn; unfold FS at hi; rw [if_pos hn] at hi; simp at hi
        omega
      rw [FS_first hp h1, if_pos rfl, tat_out (by omega)]
    | succ i =>
      have := FS_next hi
      rw [if_neg (by omega), tat_in (by omega) (by omega)]; exact h.1.2 _ (by omega) (by omega)
  rw [e4] at e3
  apply W_eq; unfold f_X3_spaceBefore; simp (disch := first | assumption | omega) only [↓b_hid, bH_some, ↓hid_W, ↓W_ite, WI_t, WI_f, W_some, I3_a, I3_s, I3_m, I3_n, I3_l, I3_lt, I3_le, I3_e, I3_dv, I3_rm, I3_mx, I3_mn, I3_ab, cI, bI_0, bI_1, rZ_b, up_same, up_row, up_col, xr_some, LQ_r, LQ_l, Int.sub_self, Int.add_zero, Int.zero_add, Int.sub_zero, Int.neg_neg, not_true_eq_false, not_false_eq_true, Int.add_sub_cancel, gI_35, pI_35, iO_35, gR_35_0, aI_36, sI_36, gR_35_1, aI_37, sI_37, gR_35_3, e2, e3, iO_T, WI_pos, WI_neg]
end
