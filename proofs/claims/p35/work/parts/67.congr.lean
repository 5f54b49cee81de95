/-! What is found depends on the nine numbers of a protocol alone. -/
def tr9 (f : Int → Int) : Int → Int := fun j => if 0 ≤ j ∧ j < 9 then f j else 0
theorem tr9_e {f g : Int → Int} (h : ∀ j : Int, 0 ≤ j → j < 9 → f j = g j) : tr9 f = tr9 g := by
  funext j; unfold tr9; split
  · exact h j (by omega) (by omega)
  · rfl
theorem tr9_v (f : Int → Int) {j : Int} (h : 0 ≤ j) (h' : j < 9) : tr9 f j = f j := by unfold tr9; rw [if_pos ⟨h, h'⟩]
section
variable (f e : Int → Int) (m tol : Int)
theorem tr_plc (k : Int) : plc (tr9 f) k = plc f k := rfl
theorem tr_csum (b : Int → Int) : ∀ n : Nat, csum (tr9 f) b n = csum f b n
  | 0 => rfl
  | n + 1 => by rw [csum, csum, tr_csum b n, tr_plc]
theorem tr_sgl (q : Int) : sgl (tr9 f) e m tol q = sgl f e m tol q := rfl
theorem tr_dbl (q : Int) : dbl (tr9 f) e m tol q = dbl f e m tol q := rfl
theorem tr_par (q : Int) : par (tr9 f) e m tol q = par f e m tol q := rfl
theorem tr_Rd : ∀ (r : Nat) (q : Int), Rd (tr9 f) e m tol r q = Rd f e m tol r q
  | 0, q => rfl
  | r + 1, q => by rw [Rd_s, Rd_s, tr_Rd r, tr_Rd r, tr_dbl, tr_par]
theorem tr_Rz (r : Nat) (q : Int) : Rz (tr9 f) e m tol r q = Rz f e m tol r q := by unfold Rz; rw [tr_Rd, tr_Rd, tr_dbl, tr_par]
theorem tr_phs : ∀ (r : Nat) (q : Int), phs (tr9 f) e m tol r q = phs f e m tol r q
  | 0, q => rfl
  | r + 1, q => by
    rw [phs, phs, tr_phs r]
    unfold phb phn; rw [tr_Rz, tr_plc, tr9_v f (by decide) (by decide)]
theorem tr_xcode : xcode (tr9 f) e m tol = xcode f e m tol := by
  unfold xcode
  rw [tr9_v f (j := 0) (by decide) (by decide)]
  split
  · unfold phcode ph0 ph1
    rw [tr9_v f (j := 6) (by decide) (by decide), tr9_v f (j := 1) (by decide) (by decide), tr9_v f (j := 2) (by decide) (by decide), tr9_v f (j := 3) (by decide) (by decide), tr_phs, tr_phs, tr_Rd, tr_Rd, tr_sgl, tr_plc]
  · unfold pcode
    have : pok (tr9 f) e m tol = pok f e m tol := rfl
    have h2 : pbv (tr9 f) e tol = pbv f e tol := rfl
    rw [this, h2, tr9_v f (j := 6) (by decide) (by decide), tr_csum]
theorem tr_xshort : xshort (tr9 f) e m tol = xshort f e m tol := rfl
end
theorem xcode_c {f g : Int → Int} (h : ∀ j : Int, 0 ≤ j → j < 9 → f j = g j) (e : Int → Int) (m tol : Int) : xcode f e m tol = xcode g e m tol := by
  rw [← tr_xcode f, ← tr_xcode g, tr9_e h]
theorem xshort_c {f g : Int → Int} (h : ∀ j : Int, 0 ≤ j → j < 9 → f j = g j) (e : Int → Int) (m tol : Int) : xshort f e m tol = xshort g e m tol := by
  rw [← tr_xshort f, ← tr_xshort g, tr9_e h]
theorem dec_c {F G : Nat → Int → Int} {n : Nat} (h : ∀ q, q < n → ∀ j : Int, 0 ≤ j → j < 9 → F q j = G q j) (e : Int → Int) (m tol : Int) : dec F n e m tol = dec G n e m tol := by
  have h1 : ∀ k q, q + k = n → dec1 F e m tol k q = dec1 G e m tol k q := by
    intro k
    induction k with
    | zero => intro q _; rfl
    | succ k ih => intro q hq; rw [dec1, dec1, ih (q + 1) (by omega), xcode_c (h q (by omega))]
  have h2 : ∀ k q, q + k = n → dec2 F e m tol k q = dec2 G e m tol k q := by
    intro k
    induction k with
    | zero => intro q _; rfl
    | succ k ih => intro q hq; rw [dec2, dec2, ih (q + 1) (by omega), xshort_c (h q (by omega))]
  unfold dec; rw [h1 n 0 (by omega), h2 n 0 (by omega)]
theorem tr_fstep (f : Int → Int) (c k : Int) (x : Dn) : fstep (tr9 f) c k x = fstep f c k x := rfl
theorem tr_frK (f : Int → Int) (c : Int) : ∀ k : Nat, frK (tr9 f) c k = frK f c k
  | 0 => rfl
  | k + 1 => by rw [frK, frK, tr_frK f c k, tr_fstep]
theorem frm_c {f g : Int → Int} (h : ∀ j : Int, 0 ≤ j → j < 9 → f j = g j) (c : Int) : frm f c = frm g c := by
  have : ∀ f : Int → Int, frm (tr9 f) c = frm f c := by
    intro f; unfold frm
    rw [tr9_v f (j := 6) (by decide) (by decide), tr9_v f (j := 0) (by decide) (by decide), tr9_v f (j := 3) (by decide) (by decide), tr_frK]
  rw [← this f, ← this g, tr9_e h]
theorem frs_c {f g : Int → Int} (h : ∀ j : Int, 0 ≤ j → j < 9 → f j = g j) : frs f = frs g := by
  unfold frs; rw [h 3 (by decide) (by decide), h 2 (by decide) (by decide), h 1 (by decide) (by decide)]
theorem PV_c {f g : Int → Int} (h : ∀ j : Int, 0 ≤ j → j < 9 → f j = g j) (hP : PV f) : PV g := by
  unfold PV at hP ⊢
  rw [← h 0 (by decide) (by decide), ← h 1 (by decide) (by decide), ← h 2 (by decide) (by decide), ← h 3 (by decide) (by decide), ← h 4 (by decide) (by decide), ← h 5 (by decide) (by decide), ← h 6 (by decide) (by decide), ← h 7 (by decide) (by decide), ← h 8 (by decide) (by decide)]; exact hP
/-- the row's protocols -/
def Fσ (σ : Int → Int) : Nat → Int → Int := fun q j => σ (4 + 9 * q + j)
def nσ (σ : Int → Int) : Nat := (σ 3).toNat
def dσ (σ : Int → Int) (s : Nat) : Int → Int := fun i => σ (86 + 200 * s + i)
theorem V_n {σ : Int → Int} (h : V σ) : (nσ σ : Int) = σ 3 ∧ nσ σ ≤ 6 := by have := h.2.2.2.1; unfold nσ; omega
theorem St_TbP {z : Nat → Int → Int} {b : Nat} {σ : Int → Int} (hV : V σ) (hS : St z b σ) : TbP z (b + 1) (nσ σ) (fun q => z (b + 1 + 4 + q)) ∧ ∀ q, q < nσ σ → ∀ j : Int, 0 ≤ j → j < 9 → z (b + 1 + 4 + q) j = Fσ σ q j := by
  obtain ⟨n1, n2⟩ := V_n hV
  have h2 : ∀ q, q < nσ σ → ∀ j : Int, 0 ≤ j → j < 9 → z (b + 1 + 4 + q) j = Fσ σ q j := fun q hq j j0 j1 => hS.2.1.2.2.1 q (by omega) j j0 j1
  refine ⟨⟨by rw [n1]; exact hS.2.1.1, n2, fun q hq => ⟨rfl, ?_⟩⟩, h2⟩
  exact PV_c (fun j j0 j1 => (h2 q hq j j0 j1).symm) (hV.2.2.2.2.2.1 q (by omega))
/-- what frame i of a train decodes to -/
noncomputable def dcd (σ d : Int → Int) (n tol : Int) (i : Nat) : Int × Int := dec (Fσ σ) (nσ σ) (fun k => d ((gl (FS d n (σ 0)) i).1 + k)) (gl (FS d n (σ 0)) i).2 tol
theorem dcd_r {σ d : Int → Int} {n tol : Int} (i : Nat) (hV : V σ) : dcd σ d n tol i = (-9, -9) ∨ (∃ j : Nat, j < nσ σ ∧ (dcd σ d n tol i).1 = j ∧ ((dcd σ d n tol i).2 = -9 ∨ 0 ≤ (dcd σ d n tol i).2 ∧ (dcd σ d n tol i).2 ≤ 1000000)) := by
  refine dec_r (fun j hj => ?_)
  have := V_n hV
  exact (hV.2.2.2.2.2.1 j (by omega)).2.2.2.2.2.1
section
variable {p : Nat → Nat} {z l : Nat → Int → Int}
/-- the class: a train of the state is split, and a frame is decoded -/
theorem c_split {b s : Nat} {σ : Int → Int} (hb : isB b) (hV : V σ) (hS : St z b σ) (hs : s < 3) : WP (f_X3_split 35 (b + 12 + 2 * s) (I3 (σ 0)) (M p z l)) (fun μ => ∃ z', μ = M p z' l ∧ Fs z' (σ (83 + s)) (dσ σ s) (σ 0) ∧ FrF z z') := by
  have hv := hV.2.2.2.2.2.2.2 s hs
  have ht := isT_B hb hs
  have hr := isB_r hb
  refine w_split ht (by omega) (by omega) (hS.2.2 s hs) hv.1.1 hv.1.2 (by have := hV.1; omega) (by have := hV.1; omega) (fun i i0 i1 => ?_)
  have := hv.2 i i0 i1
  show 0 ≤ σ (86 + 200 * s + i) ∧ σ (86 + 200 * s + i) < 2147483648
  omega
theorem c_decode {b i : Nat} {n tol : Int} {σ d : Int → Int} (hb : isB b) (hV : V σ) (hS : St z b σ) (hF : Fs z n d (σ 0)) (h0 : 0 ≤ n) (h1 : n ≤ 200) (hi : i < (FS d n (σ 0)).length) (htol : 0 ≤ tol ∧ tol ≤ 40) (hd : ∀ k, 0 ≤ k → k < n → 0 ≤ d k ∧ d k ≤ 20000000) : WP (f_X2_decode 40 (b + 1) 35 (I3 i) (I3 tol) (M p z l)) (fun μ => ∃ z' l', μ = M p z' l' ∧ z' 40 0 = (dcd σ d n tol i).1 ∧ z' 40 1 = (dcd σ d n tol i).2 ∧ (∀ k, k ≠ 40 → k ≠ 41 → z' k = z k) ∧ ∀ k, k ≠ 42 → l' k = l k) := by
  obtain ⟨hT, hc⟩ := St_TbP hV hS
  have := w_decode (p := p) (l := l) (isTb_B hb) hT hF h0 h1 hi htol hd
  rw [dec_c hc] at this
  exact this
theorem g_isDec {x : Int} (h : z 40 0 = x) (hx : -9 ≤ x ∧ x ≤ 1000000) : f_X2_isDecoded 40 (M p z l) = some (I3 (bI (x ≠ -9)), M p z l) := by
  apply W_eq; unfold f_X2_isDecoded; simp (disch := first | assumption | omega) only [↓b_hid, bH_some, ↓hid_W, ↓W_ite, WI_t, WI_f, W_some, I3_a, I3_s, I3_m, I3_n, I3_l, I3_lt, I3_le, I3_e, I3_dv, I3_rm, I3_mx, I3_mn, I3_ab, cI, bI_0, bI_1, rZ_b, up_same, up_row, up_col, xr_some, LQ_r, LQ_l, Int.sub_self, Int.add_zero, Int.zero_add, Int.sub_zero, Int.neg_neg, not_true_eq_false, not_false_eq_true, Int.add_sub_cancel, gI_40, pI_40, iO_40, gR_40_2, aI_41, sI_41, gR_40_5, h]
  refine WI_i (fun h => ?_) (fun h => ?_)
  · simp (disch := first | assumption | omega) only [↓b_hid, bH_some, ↓hid_W, ↓W_ite, WI_t, WI_f, W_some, I3_a, I3_s, I3_m, I3_n, I3_l, I3_lt, I3_le, I3_e, I3_dv, I3_rm, I3_mx, I3_mn, I3_ab, cI, bI_0, bI_1, rZ_b, up_same, up_row, up_col, xr_some, LQ_r, LQ_l, Int.sub_self, Int.add_zero, Int.zero_add, Int.sub_zero, Int.neg_neg, not_true_eq_false, not_false_eq_true, Int.add_sub_cancel]; rw [bI_f (by omega)]
  · simp (disch := first | assumption | omega) only [↓b_hid, bH_some, ↓hid_W, ↓W_ite, WI_t, WI_f, W_some, I3_a, I3_s, I3_m, I3_n, I3_l, I3_lt, I3_le, I3_e, I3_dv, I3_rm, I3_mx, I3_mn, I3_ab, cI, bI_0, bI_1, rZ_b, up_same, up_row, up_col, xr_some, LQ_r, LQ_l, Int.sub_self, Int.add_zero, Int.zero_add, Int.sub_zero, Int.neg_neg, not_true_eq_false, not_false_eq_true, Int.add_sub_cancel]; rw [bI_t (by omega)]
theorem g_isCod {x : Int} (h : z 40 1 = x) (hx : -9 ≤ x ∧ x ≤ 1000000) : f_X2_isCode 40 (M p z l) = some (I3 (bI (x ≠ -9)), M p z l) := by
  apply W_eq; unfold f_X2_isCode; simp (disch := first | assumption | omega) only [↓b_hid, bH_some, ↓hid_W, ↓W_ite, WI_t, WI_f, W_some, I3_a, I3_s, I3_m, I3_n, I3_l, I3_lt, I3_le, I3_e, I3_dv, I3_rm, I3_mx, I3_mn, I3_ab, cI, bI_0, bI_1, rZ_b, up_same, up_row, up_col, xr_some, LQ_r, LQ_l, Int.sub_self, Int.add_zero, Int.zero_add, Int.sub_zero, Int.neg_neg, not_true_eq_false, not_false_eq_true, Int.add_sub_cancel, gI_40, pI_40, iO_40, gR_40_2, aI_41, sI_41, gR_40_5, h]
  refine WI_i (fun h => ?_) (fun h => ?_)
  · simp (disch := first | assumption | omega) only [↓b_hid, bH_some, ↓hid_W, ↓W_ite, WI_t, WI_f, W_some, I3_a, I3_s, I3_m, I3_n, I3_l, I3_lt, I3_le, I3_e, I3_dv, I3_rm, I3_mx, I3_mn, I3_ab, cI, bI_0, bI_1, rZ_b, up_same, up_row, up_col, xr_some, LQ_r, LQ_l, Int.sub_self, Int.add_zero, Int.zero_add, Int.sub_zero, Int.neg_neg, not_true_eq_false, not_false_eq_true, Int.add_sub_cancel]; rw [bI_f (by omega)]
  · simp (disch := first | assumption | omega) only [↓b_hid, bH_some, ↓hid_W, ↓W_ite, WI_t, WI_f, W_some, I3_a, I3_s, I3_m, I3_n, I3_l, I3_lt, I3_le, I3_e, I3_dv, I3_rm, I3_mx, I3_mn, I3_ab, cI, bI_0, bI_1, rZ_b, up_same, up_row, up_col, xr_some, LQ_r, LQ_l, Int.sub_self, Int.add_zero, Int.zero_add, Int.sub_zero, Int.neg_neg, not_true_eq_false, not_false_eq_true, Int.add_sub_cancel]; rw [bI_t (by omega)]
end
