/-! neededTolerance(): more tolerance decodes more; both sides. -/
theorem mt_mono {x len t t' : Int} (h : t ≤ t') (hl : 0 ≤ len) (hm : mt x len t) : mt x len t' :=
  Int.le_trans hm (Int.mul_le_mul_of_nonneg_left h hl)
def xok (f e : Int → Int) (m tol : Int) : Prop := if f 0 = 2 then (3 ≤ m ∧ m ≤ 2 * f 6 + 1 ∧ mt (e 0) (f 1) tol) ∧ (ph0 f e m tol ∨ ph1 f e m tol) else pok f e m tol
theorem xcode_ok {f e : Int → Int} {m tol : Int} (h6 : 1 ≤ f 6 ∧ f 6 ≤ 16) : xcode f e m tol ≠ -9 ↔ xok f e m tol := by
  unfold xcode xok
  by_cases h0 : f 0 = 2
  · rw [if_pos h0, if_pos h0]
    unfold phcode
    by_cases hg : 3 ≤ m ∧ m ≤ 2 * f 6 + 1 ∧ mt (e 0) (f 1) tol
    · rw [cif_t hg]
      have p2 := phs_r (f := f) e m tol 2 h6
      have p3 := phs_r (f := f) e m tol 3 h6
      have pp := pw_pos (plc f 0)
      by_cases h1 : ph0 f e m tol
      · rw [cif_t h1]
        exact ⟨fun _ => ⟨hg, Or.inl h1⟩, fun _ => by omega⟩
      · rw [cif_f h1]
        by_cases h2 : ph1 f e m tol
        · rw [cif_t h2]
          exact ⟨fun _ => ⟨hg, Or.inr h2⟩, fun _ => by omega⟩
        · rw [cif_f h2]
          refine ⟨fun h => absurd rfl h, fun h => ?_⟩
          rcases h.2 with h | h
          · exact absurd h h1
          · exact absurd h h2
    · rw [cif_f hg]
      exact ⟨fun h => absurd rfl h, fun h => absurd h.1 hg⟩
  · rw [if_neg h0, if_neg h0]
    unfold pcode
    by_cases hp : pok f e m tol
    · rw [cif_t hp]
      have := csum_nn f (pbv f e tol) (fun k => cif01 _) h6.2 (by omega)
      exact ⟨fun _ => hp, fun _ => by omega⟩
    · rw [cif_f hp]
      exact ⟨fun h => absurd rfl h, fun h => absurd h hp⟩
section
variable {f e : Int → Int} {m t t' : Int}
theorem sgl_mono (h : t ≤ t') (h3 : 0 ≤ f 3) {q : Int} (hs : sgl f e m t q) : sgl f e m t' q := ⟨hs.1, hs.2.1, mt_mono h h3 hs.2.2⟩
theorem dbl_mono (h : t ≤ t') (h3 : 0 ≤ f 3) {q : Int} (hs : dbl f e m t q) : dbl f e m t' q := ⟨hs.1, hs.2.1, mt_mono h (by omega) hs.2.2⟩
theorem Rd_mono (h : t ≤ t') (h3 : 0 ≤ f 3) : ∀ (r : Nat) (q : Int), Rd f e m t r q → Rd f e m t' r q
  | 0, q, hr => by
    rcases hr with h1 | h1
    · exact Or.inl h1
    · exact Or.inr ⟨h1.1, sgl_mono h h3 h1.2⟩
  | r + 1, q, hr => by
    rcases hr with h1 | h1
    · exact Or.inl ⟨dbl_mono h h3 h1.1, Rd_mono h h3 r _ h1.2⟩
    · exact Or.inr ⟨⟨sgl_mono h h3 h1.1.1, sgl_mono h h3 h1.1.2⟩, Rd_mono h h3 r _ h1.2⟩
theorem xok_mono (h : t ≤ t') (hP : PV f) (hx : xok f e m t) : xok f e m t' := by
  obtain ⟨p0, p1, p2, p3, p4, p6, p7, p8⟩ := hP
  unfold xok at hx ⊢
  split
  · rename_i h0
    rw [if_pos h0] at hx
    obtain ⟨⟨a, b, c⟩, d⟩ := hx
    refine ⟨⟨a, b, mt_mono h (by omega) c⟩, ?_⟩
    rcases d with d | d
    · exact Or.inl ⟨mt_mono h (by omega) d.1, Rd_mono h (by omega) _ _ d.2⟩
    · exact Or.inr ⟨mt_mono h (by omega) d.1, sgl_mono h (by omega) d.2.1, Rd_mono h (by omega) _ _ d.2.2⟩
  · rename_i h0
    rw [if_neg h0] at hx
    obtain ⟨a, b, c, d, g⟩ := hx
    refine ⟨a, mt_mono h (by omega) b, mt_mono h (by omega) c, fun i i0 i1 i2 => mt_mono h (by omega) (d i i0 i1 i2), fun k k0 k1 => ?_⟩
    rcases g k k0 k1 with g | g
    · exact Or.inl (mt_mono h (by omega) g)
    · exact Or.inr (mt_mono h (by omega) g)
theorem xshort_mono (h : t ≤ t') (hP : PV f) (hx : xshort f e m t) : xshort f e m t' := by
  obtain ⟨p0, p1, p2, p3, p4, p6, p7, p8⟩ := hP
  obtain ⟨a, b, c, d, g⟩ := hx
  exact ⟨a, b, mt_mono h (by omega) c, mt_mono h (by omega) d, mt_mono h (by omega) g⟩
end
theorem dec1_ok {F : Nat → Int → Int} {e : Int → Int} {m t : Int} : ∀ (k q : Nat), (dec1 F e m t k q).1 ≠ -9 ↔ ∃ j, q ≤ j ∧ j < q + k ∧ xcode (F j) e m t ≠ -9
  | 0, q => ⟨fun h => absurd rfl h, fun ⟨j, h1, h2, _⟩ => by omega⟩
  | k + 1, q => by
    rw [dec1]
    by_cases h : xcode (F q) e m t = -9
    · rw [if_pos h, dec1_ok k (q + 1)]
      constructor
      · rintro ⟨j, h1, h2, h3⟩; exact ⟨j, by omega, by omega, h3⟩
      · rintro ⟨j, h1, h2, h3⟩
        have : j ≠ q := by intro hj; subst hj; exact h3 h
        exact ⟨j, by omega, by omega, h3⟩
    · rw [if_neg h]
      refine ⟨fun _ => ⟨q, by omega, by omega, h⟩, fun _ => ?_⟩
      show ((q : Nat) : Int) ≠ -9
      omega
theorem dec2_ok {F : Nat → Int → Int} {e : Int → Int} {m t : Int} : ∀ (k q : Nat), dec2 F e m t k q ≠ -9 ↔ ∃ j, q ≤ j ∧ j < q + k ∧ xshort (F j) e m t
  | 0, q => ⟨fun h => absurd rfl h, fun ⟨j, h1, h2, _⟩ => by omega⟩
  | k + 1, q => by
    rw [dec2]
    by_cases h : xshort (F q) e m t
    · rw [cif_t h]
      exact ⟨fun _ => ⟨q, by omega, by omega, h⟩, fun _ => by omega⟩
    · rw [cif_f h, dec2_ok k (q + 1)]
      constructor
      · rintro ⟨j, h1, h2, h3⟩; exact ⟨j, by omega, by omega, h3⟩
      · rintro ⟨j, h1, h2, h3⟩
        have : j ≠ q := by intro hj; subst hj; exact h h3
        exact ⟨j, by omega, by omega, h3⟩
theorem dec_ok {F : Nat → Int → Int} {n : Nat} {e : Int → Int} {m t : Int} : (dec F n e m t).1 ≠ -9 ↔ ∃ j, j < n ∧ (xcode (F j) e m t ≠ -9 ∨ xshort (F j) e m t) := by
  have h1 := dec1_ok (F := F) (e := e) (m := m) (t := t) n 0
  have h2 := dec2_ok (F := F) (e := e) (m := m) (t := t) n 0
  unfold dec
  by_cases h : (dec1 F e m t n 0).1 = -9
  · rw [if_pos h]
    show dec2 F e m t n 0 ≠ -9 ↔ _
    rw [h2]
    constructor
    · rintro ⟨j, _, b, c⟩; exact ⟨j, by omega, Or.inr c⟩
    · rintro ⟨j, a, c | c⟩
      · exact absurd h (h1.mpr ⟨j, by omega, by omega, c⟩)
      · exact ⟨j, by omega, by omega, c⟩
  · rw [if_neg h]
    refine ⟨fun _ => ?_, fun _ => h⟩
    obtain ⟨j, _, b, c⟩ := h1.mp h
    exact ⟨j, by omega, Or.inl c⟩
theorem dec_mono {F : Nat → Int → Int} {n : Nat} {e : Int → Int} {m t t' : Int} (h : t ≤ t') (hP : ∀ j, j < n → PV (F j)) (hd : (dec F n e m t).1 ≠ -9) : (dec F n e m t').1 ≠ -9 := by
  obtain ⟨j, a, b⟩ := dec_ok.mp hd
  refine dec_ok.mpr ⟨j, a, ?_⟩
  have h6 := (hP j a).2.2.2.2.2.1
  rcases b with b | b
  · exact Or.inl ((xcode_ok h6).mpr (xok_mono h (hP j a) ((xcode_ok h6).mp b)))
  · exact Or.inr (xshort_mono h (hP j a) b)
theorem exK_c (P : Int → Prop) : ∀ (n : Nat) (k : Int), 0 ≤ k → (exK P n k = -9 ∧ ∀ t, k ≤ t → t < k + n → ¬P t) ∨ (P (exK P n k) ∧ k ≤ exK P n k ∧ exK P n k < k + n ∧ ∀ t, k ≤ t → t < exK P n k → ¬P t)
  | 0, k, _ => Or.inl ⟨rfl, fun t a b => by omega⟩
  | n + 1, k, h => by
    rw [exK]
    by_cases hp : P k
    · rw [cif_t hp]
      exact Or.inr ⟨hp, by omega, by omega, fun t a b => by omega⟩
    · rw [cif_f hp]
      rcases exK_c P n (k + 1) (by omega) with ⟨a, b⟩ | ⟨a, b, c, d⟩
      · refine Or.inl ⟨a, fun t t0 t1 => ?_⟩
        by_cases ht : t = k
        · rw [ht]; exact hp
        · exact b t (by omega) (by omega)
      · refine Or.inr ⟨a, by omega, by omega, fun t t0 t1 => ?_⟩
        by_cases ht : t = k
        · rw [ht]; exact hp
        · exact d t (by omega) t1
theorem exK_e {P : Int → Prop} {n : Nat} {k r : Int} (h0 : 0 ≤ k) (h1 : P r) (h2 : k ≤ r) (h3 : r < k + n) (h4 : ∀ t, k ≤ t → t < r → ¬P t) : exK P n k = r := by
  rcases exK_c P n k h0 with ⟨a, b⟩ | ⟨a, b, c, d⟩
  · exact absurd h1 (b r h2 h3)
  · have e1 : ¬exK P n k < r := fun h => h4 _ b h a
    have e2 : ¬r < exK P n k := fun h => d r h2 h h1
    omega
theorem exK_9 {P : Int → Prop} {n : Nat} {k : Int} (h0 : 0 ≤ k) (h : ∀ t, k ≤ t → t < k + n → ¬P t) : exK P n k = -9 := by
  rcases exK_c P n k h0 with ⟨a, b⟩ | ⟨a, b, c, d⟩
  · exact a
  · exact absurd a (h _ b c)
/-- frame i decodes with a tolerance -/
def tolOk (σ : Int → Int) (s i : Nat) (t : Int) : Prop := (dcd σ (dσ σ s) (σ (83 + s)) t i).1 ≠ -9
theorem tolOk_mono {σ : Int → Int} (hV : V σ) {s i : Nat} {t t' : Int} (h : t ≤ t') (ho : tolOk σ s i t) : tolOk σ s i t' := by
  have := V_n hV
  exact dec_mono h (fun j hj => hV.2.2.2.2.2.1 j (by omega)) ho
def allT (σ : Int → Int) (s N : Nat) (t : Int) : Prop := ∀ i : Nat, i < N → tolOk σ s i t
noncomputable def ndT (σ : Int → Int) (s N : Nat) : Int := exK (allT σ s N) 41 0
noncomputable def A_needed (σ : Int → Int) (s : Int) : Int := if 0 ≤ s ∧ s ≤ 2 then ndT σ s.toNat (Lσ σ s.toNat).length else -1
theorem ndT_0 (σ : Int → Int) (s : Nat) : ndT σ s 0 = 0 := exK_e (by decide) (fun i hi => by omega) (by decide) (by decide) (fun t h0 h1 => by omega)
theorem ndT_r (σ : Int → Int) (s N : Nat) : ndT σ s N = -9 ∨ 0 ≤ ndT σ s N ∧ ndT σ s N ≤ 40 := by
  have := exK_r (allT σ s N) 41 0 (by decide)
  unfold ndT; omega
theorem ndT_s {σ : Int → Int} (hV : V σ) {s i : Nat} {m : Nat} (h : ndT σ s i ≠ -9) (hm : (m : Int) = 41 - ndT σ s i) : ndT σ s (i + 1) = exK (tolOk σ s i) m (ndT σ s i) := by
  have hr := ndT_r σ s i
  have hc := exK_c (allT σ s i) 41 0 (by decide)
  have hc : (ndT σ s i = -9 ∧ _) ∨ (allT σ s i (ndT σ s i) ∧ 0 ≤ ndT σ s i ∧ ndT σ s i < 0 + 41 ∧ ∀ t, 0 ≤ t → t < ndT σ s i → ¬allT σ s i t) := hc
  generalize ndT σ s i = a at *
  rcases hc with hc | ⟨c1, c2, c3, c4⟩
  · exact absurd hc.1 h
  · have mono : ∀ t, a ≤ t → allT σ s i t := fun t ht j hj => tolOk_mono hV ht (c1 j hj)
    have less : ∀ t, allT σ s (i + 1) t → allT σ s i t ∧ tolOk σ s i t := fun t ht => ⟨fun j hj => ht j (by omega), ht i (by omega)⟩
    rcases exK_c (tolOk σ s i) m a c2 with ⟨d1, d2⟩ | ⟨d1, d2, d3, d4⟩
    · rw [d1]
      refine exK_9 (by decide) (fun t t0 t1 ht => ?_)
      obtain ⟨e1, e2⟩ := less t ht
      by_cases hta : t < a
      · exact c4 t t0 hta e1
      · exact d2 t (by omega) (by omega) e2
    · refine exK_e (by decide) (fun j hj => ?_) (by omega) (by omega) (fun t t0 t1 ht => ?_)
      · by_cases hji : j = i
        · rw [hji]; exact d1
        · exact mono _ d2 j (by omega)
      · obtain ⟨e1, e2⟩ := less t ht
        by_cases hta : t < a
        · exact c4 t t0 hta e1
        · exact d4 t (by omega) t1 e2
theorem ndT_9 {σ : Int → Int} {s i N : Nat} (h : ndT σ s i = -9) (hi : i ≤ N) : ndT σ s N = -9 := by
  have hc := exK_c (allT σ s i) 41 0 (by decide)
  rcases hc with ⟨_, hc⟩ | ⟨_, c2, _⟩
  · exact exK_9 (by decide) (fun t t0 t1 ht => hc t t0 t1 (fun j hj => ht j (by omega)))
  · have h : exK (allT σ s i) 41 0 = -9 := h
    omega
section
variable {p : Nat → Nat} {z l : Nat → Int → Int}
set_option maxHeartbeats 4000000 in
theorem w_tolFor {σ : Int → Int} {s i : Nat} {a : Int} {m : Nat} (hb : isB (p 0)) (hV : V σ) (hS : St z (p 0) σ) (hs : s < 3) (hF : Fs z (σ (83 + s)) (dσ σ s) (σ 0)) (hi : i < (Lσ σ s).length) (ha : 0 ≤ a) (hm : (m : Int) = 41 - a) : WP (f_X11_toleranceFor 0 (I3 i) (I3 a) (M p z l)) (fun r => ∃ z' l', r = (I3 (exK (tolOk σ s i) m a), M p z' l') ∧ ∀ k, k ≠ 40 → k ≠ 41 → z' k = z k) := by
  have hr := isB_r hb
  have ht := σ_tr hV hs
  unfold f_X11_toleranceFor f_X11_toleranceFor_2
  refine lp_W (fun n st => ∃ (t : Int) (z' l' : Nat → Int → Int), st = (0, I3 i, I3 t, M p z' l') ∧ a ≤ t ∧ (n : Int) = 41 - t ∧ (∀ k, k ≠ 40 → k ≠ 41 → z' k = z k) ∧ exK (tolOk σ s i) m a = exK (tolOk σ s i) n t) (fun n st hst => ?_) ⟨a, z, l, rfl, by omega, hm, fun _ _ _ => rfl, rfl⟩
  obtain ⟨t, z', l', rfl, ht1, ht2, hC, hE⟩ := hst
  unfold f_X11_toleranceFor_2_b
  by_cases h40 : t ≤ 40
  · obtain ⟨n', rfl⟩ : ∃ n', n = n' + 1 := ⟨n - 1, by omega⟩
    rw [exK_s _ n'] at hE
    have hS' : St z' (p 0) σ := St_congr hV (fun c c0 c1 => hC c (by omega) (by omega)) hS
    have hF' : Fs z' (σ (83 + s)) (dσ σ s) (σ 0) := by
      obtain ⟨x1, x2, x3⟩ := hF
      exact ⟨Tr_congr (hC 38 (by decide) (by decide)) (hC 39 (by decide) (by decide)) x1, by rw [hC 35 (by decide) (by decide)]; exact x2, by rw [hC 36 (by decide) (by decide), hC 37 (by decide) (by decide)]; exact x3⟩
    simp (disch := first | assumption | omega) only [↓b_hid, bH_some, ↓hid_W, W_some, I3_a, I3_s, I3_m, I3_n, I3_l, I3_lt, I3_le, I3_e, I3_dv, I3_rm, I3_mx, I3_mn, I3_ab, cI, bI_0, bI_1, rZ_b, up_same, up_row, up_col, xr_some, LQ_r, LQ_l, Int.sub_self, Int.add_zero, Int.zero_add, Int.sub_zero, Int.neg_neg, not_true_eq_false, not_false_eq_true, Int.add_sub_cancel, ↓ite_iH, iH_t, iH_f, bH_iH, ↓bH_bind, xr_iH, ↓xr_bind, W_iH, WI_t, WI_f, aR_34, aR_19, sR_19, gR_0_0, pR_0, gI_0, pI_0, iO_0, gR_0_1, gR_0_3, gR_0_4, gR_0_5, gR_0_6, gR_0_7, gR_0_8, gR_0_9, gR_0_10, gR_0_11, gI_B, pI_B, iO_B, gR_B0, gR_B1, aR_B, gR_0_7, gR_0_8, iO_40, iH_pos, iH_neg, WI_pos, WI_neg]
    refine W_bH (W_imp (c_decode (i := i) (tol := t) hb hV hS' hF' ht.1.1 ht.1.2 hi (by omega) (fun c c0 c1 => by have := ht.2 c c0 c1; omega)) ?_)
    rintro _ ⟨z6, l6, rfl, g1, g2, g3, g4⟩
    have hC6 : ∀ k, k ≠ 40 → k ≠ 41 → z6 k = z k := fun k k0 k1 => (g3 k k0 k1).trans (hC k k0 k1)
    have hdr : -9 ≤ (dcd σ (dσ σ s) (σ (83 + s)) t i).1 ∧ (dcd σ (dσ σ s) (σ (83 + s)) t i).1 ≤ 1000000 := by
      rcases dcd_r (d := dσ σ s) (n := σ (83 + s)) (tol := t) i hV with h | ⟨j, h1, h2, _⟩
      · rw [h]; decide
      · have := V_n hV; omega
    by_cases hok : tolOk σ s i t
    · rw [cif_t hok] at hE
      have hne : (dcd σ (dσ σ s) (σ (83 + s)) t i).1 ≠ -9 := hok
      have gd := g_isDec (p := p) (l := l6) g1 hdr
      rw [bI_t hne] at gd
      simp (disch := first | assumption | omega) only [↓b_hid, bH_some, ↓hid_W, W_some, I3_a, I3_s, I3_m, I3_n, I3_l, I3_lt, I3_le, I3_e, I3_dv, I3_rm, I3_mx, I3_mn, I3_ab, cI, bI_0, bI_1, rZ_b, up_same, up_row, up_col, xr_some, LQ_r, LQ_l, Int.sub_self, Int.add_zero, Int.zero_add, Int.sub_zero, Int.neg_neg, not_true_eq_false, not_false_eq_true, Int.add_sub_cancel, ↓ite_iH, iH_t, iH_f, bH_iH, ↓bH_bind, xr_iH, ↓xr_bind, W_iH, WI_t, WI_f, aR_34, aR_19, sR_19, gR_0_0, pR_0, gI_0, pI_0, iO_0, gR_0_1, gR_0_3, gR_0_4, gR_0_5, gR_0_6, gR_0_7, gR_0_8, gR_0_9, gR_0_10, gR_0_11, gR_0_8, iO_40, gd, f_X11_toleranceFor_38, iH_pos, iH_neg, WI_pos, WI_neg]
      exact ⟨z6, l6, by rw [hE], hC6⟩
    · rw [cif_f hok] at hE
      have hne : ¬(dcd σ (dσ σ s) (σ (83 + s)) t i).1 ≠ -9 := hok
      have gd := g_isDec (p := p) (l := l6) g1 hdr
      rw [bI_f hne] at gd
      simp (disch := first | assumption | omega) only [↓b_hid, bH_some, ↓hid_W, W_some, I3_a, I3_s, I3_m, I3_n, I3_l, I3_lt, I3_le, I3_e, I3_dv, I3_rm, I3_mx, I3_mn, I3_ab, cI, bI_0, bI_1, rZ_b, up_same, up_row, up_col, xr_some, LQ_r, LQ_l, Int.sub_self, Int.add_zero, Int.zero_add, Int.sub_zero, Int.neg_neg, not_true_eq_false, not_false_eq_true, Int.add_sub_cancel, ↓ite_iH, iH_t, iH_f, bH_iH, ↓bH_bind, xr_iH, ↓xr_bind, W_iH, WI_t, WI_f, aR_34, aR_19, sR_19, gR_0_0, pR_0, gI_0, pI_0, iO_0, gR_0_1, gR_0_3, gR_0_4, gR_0_5, gR_0_6, gR_0_7, gR_0_8, gR_0_9, gR_0_10, gR_0_11, gR_0_8, iO_40, gd, iH_pos, iH_neg, WI_pos, WI_neg]
      exact ⟨n', by omega, t + 1, z6, l6, rfl, by omega, by omega, hC6, hE⟩
  · have : n = 0 := by omega
    subst this
    rw [exK_z] at hE
    simp (disch := first | assumption | omega) only [↓b_hid, bH_some, ↓hid_W, W_some, I3_a, I3_s, I3_m, I3_n, I3_l, I3_lt, I3_le, I3_e, I3_dv, I3_rm, I3_mx, I3_mn, I3_ab, cI, bI_0, bI_1, rZ_b, up_same, up_row, up_col, xr_some, LQ_r, LQ_l, Int.sub_self, Int.add_zero, Int.zero_add, Int.sub_zero, Int.neg_neg, not_true_eq_false, not_false_eq_true, Int.add_sub_cancel, ↓ite_iH, iH_t, iH_f, bH_iH, ↓bH_bind, xr_iH, ↓xr_bind, W_iH, WI_t, WI_f, f_X11_toleranceFor_46, iH_pos, iH_neg, WI_pos, WI_neg]
    exact ⟨z', l', by rw [hE], hC⟩
set_option maxHeartbeats 4000000 in
theorem c_needed {σ : Int → Int} {s : Int} (hb : isB (p 0)) (hV : V σ) (hS : St z (p 0) σ) (hs : -2147483648 ≤ s ∧ s < 2147483648) : WP (f_X11_neededTolerance 0 (I3 s) (M p z l)) (fun r => ∃ z' l', r = (I3 (A_needed σ s), M p z' l') ∧ FrX z z') := by
  have hr := isB_r hb
  unfold f_X11_neededTolerance A_needed
  by_cases h1 : 0 ≤ s ∧ s ≤ 2
  case neg =>
    rw [if_neg h1]
    simp (disch := first | assumption | omega) only [↓b_hid, bH_some, ↓hid_W, W_some, I3_a, I3_s, I3_m, I3_n, I3_l, I3_lt, I3_le, I3_e, I3_dv, I3_rm, I3_mx, I3_mn, I3_ab, cI, bI_0, bI_1, rZ_b, up_same, up_row, up_col, xr_some, LQ_r, LQ_l, Int.sub_self, Int.add_zero, Int.zero_add, Int.sub_zero, Int.neg_neg, not_true_eq_false, not_false_eq_true, Int.add_sub_cancel, ↓ite_iH, iH_t, iH_f, bH_iH, ↓bH_bind, xr_iH, ↓xr_bind, W_iH, WI_t, WI_f, g_isSlot, bI_f, iH_pos, iH_neg, WI_pos, WI_neg]
    exact ⟨z, l, rfl, FrX_r z⟩
  rw [if_pos h1]
  have hs3 : s.toNat < 3 := by omega
  have ht := σ_tr hV hs3
  have eg : z (p 0) 2 = σ 0 := hS.1.1
  simp (disch := first | assumption | omega) only [↓b_hid, bH_some, ↓hid_W, W_some, I3_a, I3_s, I3_m, I3_n, I3_l, I3_lt, I3_le, I3_e, I3_dv, I3_rm, I3_mx, I3_mn, I3_ab, cI, bI_0, bI_1, rZ_b, up_same, up_row, up_col, xr_some, LQ_r, LQ_l, Int.sub_self, Int.add_zero, Int.zero_add, Int.sub_zero, Int.neg_neg, not_true_eq_false, not_false_eq_true, Int.add_sub_cancel, ↓ite_iH, iH_t, iH_f, bH_iH, ↓bH_bind, xr_iH, ↓xr_bind, W_iH, WI_t, WI_f, aR_34, aR_19, sR_19, gR_0_0, pR_0, gI_0, pI_0, iO_0, gR_0_1, gR_0_3, gR_0_4, gR_0_5, gR_0_6, gR_0_7, gR_0_8, gR_0_9, gR_0_10, gR_0_11, gI_B, pI_B, iO_B, gR_B0, gR_B1, aR_B, g_isSlot, bI_t, g_trAt, gR_0_7, iO_35, eg, iH_pos, iH_neg, WI_pos, WI_neg]
  refine W_bH (W_imp (c_split hb hV hS hs3) ?_)
  rintro _ ⟨z1, rfl, a1, a2⟩
  generalize s.toNat = sn at *
  have hlen := FS_len (d := dσ σ sn) (gap := σ 0) ht.1.1 ht.1.2
  have hlen : (Lσ σ sn).length ≤ 100 := hlen
  have e35 : z1 35 2 = (Lσ σ sn).length := a1.2.1
  simp (disch := first | assumption | omega) only [↓b_hid, bH_some, ↓hid_W, W_some, I3_a, I3_s, I3_m, I3_n, I3_l, I3_lt, I3_le, I3_e, I3_dv, I3_rm, I3_mx, I3_mn, I3_ab, cI, bI_0, bI_1, rZ_b, up_same, up_row, up_col, xr_some, LQ_r, LQ_l, Int.sub_self, Int.add_zero, Int.zero_add, Int.sub_zero, Int.neg_neg, not_true_eq_false, not_false_eq_true, Int.add_sub_cancel, ↓ite_iH, iH_t, iH_f, bH_iH, ↓bH_bind, xr_iH, ↓xr_bind, W_iH, WI_t, WI_f]
  unfold f_X11_neededTolerance_35
  refine lp_W (fun n st => ∃ (i : Nat) (z' l' : Nat → Int → Int), st = (0, I3 (ndT σ sn i), I3 i, M p z' l') ∧ i ≤ (Lσ σ sn).length ∧ n = (Lσ σ sn).length - i ∧ ndT σ sn i ≠ -9 ∧ ∀ k, k ≠ 40 → k ≠ 41 → z' k = z1 k) (fun n st hst => ?_) ⟨0, z1, l, by rw [ndT_0]; rfl, by omega, rfl, by rw [ndT_0]; decide, fun _ _ _ => rfl⟩
  obtain ⟨i, z', l', rfl, hi, rfl, hn9, hC⟩ := hst
  have e35' : z' 35 2 = (Lσ σ sn).length := by rw [hC 35 (by decide) (by decide)]; exact e35
  have hnr := ndT_r σ sn i
  have hS1 : St z1 (p 0) σ := St_congr hV (fun c c0 c1 => a2 c (by omega)) hS
  have hS' : St z' (p 0) σ := St_congr hV (fun c c0 c1 => hC c (by omega) (by omega)) hS1
  have hF' : Fs z' (σ (83 + sn)) (dσ σ sn) (σ 0) := by
    obtain ⟨x1, x2, x3⟩ := a1
    exact ⟨Tr_congr (hC 38 (by decide) (by decide)) (hC 39 (by decide) (by decide)) x1, by rw [hC 35 (by decide) (by decide)]; exact x2, by rw [hC 36 (by decide) (by decide), hC 37 (by decide) (by decide)]; exact x3⟩
  have hFX : ∀ z2 : Nat → Int → Int, (∀ k, k ≠ 40 → k ≠ 41 → z2 k = z' k) → FrX z z2 := fun z2 h k hk => (h k (by omega) (by omega)).trans ((hC k (by omega) (by omega)).trans (a2 k (by omega)))
  unfold f_X11_neededTolerance_35_b
  by_cases hiN : i < (Lσ σ sn).length
  · have hm : ((41 - ndT σ sn i).toNat : Int) = 41 - ndT σ sn i := by omega
    have hnext := ndT_s (m := (41 - ndT σ sn i).toNat) hV hn9 hm
    simp (disch := first | assumption | omega) only [↓b_hid, bH_some, ↓hid_W, W_some, I3_a, I3_s, I3_m, I3_n, I3_l, I3_lt, I3_le, I3_e, I3_dv, I3_rm, I3_mx, I3_mn, I3_ab, cI, bI_0, bI_1, rZ_b, up_same, up_row, up_col, xr_some, LQ_r, LQ_l, Int.sub_self, Int.add_zero, Int.zero_add, Int.sub_zero, Int.neg_neg, not_true_eq_false, not_false_eq_true, Int.add_sub_cancel, ↓ite_iH, iH_t, iH_f, bH_iH, ↓bH_bind, xr_iH, ↓xr_bind, W_iH, WI_t, WI_f, aR_34, aR_19, sR_19, gR_0_0, pR_0, gI_0, pI_0, iO_0, gR_0_1, gR_0_3, gR_0_4, gR_0_5, gR_0_6, gR_0_7, gR_0_8, gR_0_9, gR_0_10, gR_0_11, gI_35, pI_35, iO_35, gR_35_0, aI_36, sI_36, gR_35_1, aI_37, sI_37, gR_35_3, gR_0_7, e35', iO_0, iH_pos, iH_neg, WI_pos, WI_neg]
    refine W_bH (W_imp (w_tolFor hb hV hS' hs3 hF' hiN (by omega) hm) ?_)
    rintro _ ⟨z2, l2, rfl, b1⟩
    rw [← hnext]
    have hnr2 := ndT_r σ sn (i + 1)
    by_cases h9 : ndT σ sn (i + 1) = -9
    · have hN := ndT_9 (N := (Lσ σ sn).length) h9 (by omega)
      rw [hN]
      simp (disch := first | assumption | omega) only [↓b_hid, bH_some, ↓hid_W, W_some, I3_a, I3_s, I3_m, I3_n, I3_l, I3_lt, I3_le, I3_e, I3_dv, I3_rm, I3_mx, I3_mn, I3_ab, cI, bI_0, bI_1, rZ_b, up_same, up_row, up_col, xr_some, LQ_r, LQ_l, Int.sub_self, Int.add_zero, Int.zero_add, Int.sub_zero, Int.neg_neg, not_true_eq_false, not_false_eq_true, Int.add_sub_cancel, ↓ite_iH, iH_t, iH_f, bH_iH, ↓bH_bind, xr_iH, ↓xr_bind, W_iH, WI_t, WI_f, h9, f_X11_neededTolerance_59, iH_pos, iH_neg, WI_pos, WI_neg]
      exact ⟨z2, l2, rfl, hFX z2 b1⟩
    · simp (disch := first | assumption | omega) only [↓b_hid, bH_some, ↓hid_W, W_some, I3_a, I3_s, I3_m, I3_n, I3_l, I3_lt, I3_le, I3_e, I3_dv, I3_rm, I3_mx, I3_mn, I3_ab, cI, bI_0, bI_1, rZ_b, up_same, up_row, up_col, xr_some, LQ_r, LQ_l, Int.sub_self, Int.add_zero, Int.zero_add, Int.sub_zero, Int.neg_neg, not_true_eq_false, not_false_eq_true, Int.add_sub_cancel, ↓ite_iH, iH_t, iH_f, bH_iH, ↓bH_bind, xr_iH, ↓xr_bind, W_iH, WI_t, WI_f, iH_pos, iH_neg, WI_pos, WI_neg]
      refine ⟨_, ?_, i + 1, z2, l2, by rw [Int.natCast_add]; rfl, by omega, rfl, h9, fun k k0 k1 => (b1 k k0 k1).trans (hC k k0 k1)⟩
      omega
  · have : i = (Lσ σ sn).length := by omega
    subst this
    simp (disch := first | assumption | omega) only [↓b_hid, bH_some, ↓hid_W, W_some, I3_a, I3_s, I3_m, I3_n, I3_l, I3_lt, I3_le, I3_e, I3_dv, I3_rm, I3_mx, I3_mn, I3_ab, cI, bI_0, bI_1, rZ_b, up_same, up_row, up_col, xr_some, LQ_r, LQ_l, Int.sub_self, Int.add_zero, Int.zero_add, Int.sub_zero, Int.neg_neg, not_true_eq_false, not_false_eq_true, Int.add_sub_cancel, ↓ite_iH, iH_t, iH_f, bH_iH, ↓bH_bind, xr_iH, ↓xr_bind, W_iH, WI_t, WI_f, aR_34, aR_19, sR_19, gR_0_0, pR_0, gI_0, pI_0, iO_0, gR_0_1, gR_0_3, gR_0_4, gR_0_5, gR_0_6, gR_0_7, gR_0_8, gR_0_9, gR_0_10, gR_0_11, gI_35, pI_35, iO_35, gR_35_0, aI_36, sI_36, gR_35_1, aI_37, sI_37, gR_35_3, gR_0_7, e35', f_X11_neededTolerance_68, iH_pos, iH_neg, WI_pos, WI_neg]
    exact ⟨z', l', rfl, hFX z' (fun _ _ _ => rfl)⟩
end
