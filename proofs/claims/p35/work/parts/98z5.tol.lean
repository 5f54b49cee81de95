/-! What is found of a frame depends on its own durations alone; with the needed tolerance all frames decode. -/
theorem fsl_congr {d d' : Int → Int} {gap E : Int} : ∀ (m : Nat) (k a : Int), 0 ≤ k → (∀ i, 0 ≤ i → i < E → d i = d' i) → fsl d gap E m k a = fsl d' gap E m k a
  | 0, _, _, _, _ => rfl
  | m + 1, k, a, h0, h => by
    unfold fsl
    by_cases hk : k < E
    · rw [if_pos hk, if_pos hk, h k h0 hk, fsl_congr m (k + 2) (k + 1) (by omega) h, fsl_congr m (k + 2) a (by omega) h]
    · rw [if_neg hk, if_neg hk]
theorem FS_congr {d d' : Int → Int} {n gap : Int} (h0 : 0 ≤ n) (h : ∀ i, 0 ≤ i → i < n → d i = d' i) : FS d n gap = FS d' n gap := by
  unfold FS
  by_cases hn : n = 0
  · rw [if_pos hn, if_pos hn]
  · rw [if_neg hn, if_neg hn]
    have := fsE_r (show 0 < n by omega)
    exact fsl_congr 200 1 0 (by omega) (fun i h1 h2 => h i h1 (by omega))
def te (m : Int) (e : Int → Int) : Int → Int := fun k => if 0 ≤ k ∧ k < m then e k else 0
theorem te_v {m k : Int} (e : Int → Int) (h0 : 0 ≤ k) (h1 : k < m) : te m e k = e k := by unfold te; rw [if_pos ⟨h0, h1⟩]
section
variable (f e : Int → Int) (m tol : Int)
theorem te_sgl (q : Int) : sgl f (te m e) m tol q = sgl f e m tol q := by
  apply propext; unfold sgl
  constructor
  · rintro ⟨a, b, c⟩; rw [te_v e (by omega) b] at c; exact ⟨a, b, c⟩
  · rintro ⟨a, b, c⟩; rw [te_v e (by omega) b]; exact ⟨a, b, c⟩
theorem te_dbl (q : Int) : dbl f (te m e) m tol q = dbl f e m tol q := by
  apply propext; unfold dbl
  constructor
  · rintro ⟨a, b, c⟩; rw [te_v e (by omega) b] at c; exact ⟨a, b, c⟩
  · rintro ⟨a, b, c⟩; rw [te_v e (by omega) b]; exact ⟨a, b, c⟩
theorem te_par (q : Int) : par f (te m e) m tol q = par f e m tol q := by unfold par; rw [te_sgl, te_sgl]
theorem te_Rd : ∀ (r : Nat) (q : Int), Rd f (te m e) m tol r q = Rd f e m tol r q
  | 0, q => by unfold Rd; rw [te_sgl]
  | r + 1, q => by rw [Rd_s, Rd_s, te_Rd r, te_Rd r, te_dbl, te_par]
theorem te_Rz (r : Nat) (q : Int) : Rz f (te m e) m tol r q = Rz f e m tol r q := by unfold Rz; rw [te_Rd, te_Rd, te_dbl, te_par]
theorem te_phs : ∀ (r : Nat) (q : Int), phs f (te m e) m tol r q = phs f e m tol r q
  | 0, q => rfl
  | r + 1, q => by
    rw [phs, phs, te_phs r]
    unfold phb phn; rw [te_Rz]
theorem csum_e {b b' : Int → Int} : ∀ n : Nat, (∀ k : Nat, k < n → b k = b' k) → csum f b n = csum f b' n
  | 0, _ => rfl
  | n + 1, h => by rw [csum, csum, csum_e n (fun k hk => h k (by omega)), h n (by omega)]
theorem te_ph0 (h3 : 3 ≤ m) : ph0 f (te m e) m tol = ph0 f e m tol := by unfold ph0; rw [te_Rd, te_v e (by decide) (by omega)]
theorem te_ph1 (h3 : 3 ≤ m) : ph1 f (te m e) m tol = ph1 f e m tol := by unfold ph1; rw [te_Rd, te_sgl, te_v e (by decide) (by omega)]
theorem te_phcode : phcode f (te m e) m tol = phcode f e m tol := by
  unfold phcode
  by_cases h3 : 3 ≤ m
  · rw [te_phs, te_phs, te_ph0 f e m tol h3, te_ph1 f e m tol h3, te_v e (by decide) (by omega)]
  · rw [cif_f (fun h => h3 h.1), cif_f (fun h => h3 h.1)]
theorem bpos_r (h6 : 1 ≤ f 6) {k : Int} (h0 : 0 ≤ k) (h1 : k < f 6) (hm : m = 2 * f 6 + (if f 0 = 1 then 1 else 3)) : 0 ≤ bpos f k ∧ bpos f k < m := by
  unfold bpos; split at hm <;> rename_i h
  · rw [if_pos h]; omega
  · rw [if_neg h]; omega
theorem te_pok (h6 : 1 ≤ f 6) : pok f (te m e) m tol = pok f e m tol := by
  apply propext; unfold pok
  constructor
  · rintro ⟨a, b, c, d, g⟩
    have hm : 3 ≤ m := by split at a <;> omega
    rw [te_v e (by decide) (by omega)] at b c
    refine ⟨a, b, c, fun i i0 i1 i2 => ?_, fun k k0 k1 => ?_⟩
    · have := d i i0 i1 i2; rw [te_v e (by omega) i1] at this; exact this
    · have hb := bpos_r f m h6 k0 k1 a
      have := g k k0 k1; rw [te_v e hb.1 hb.2] at this; exact this
  · rintro ⟨a, b, c, d, g⟩
    have hm : 3 ≤ m := by split at a <;> omega
    rw [te_v e (by decide) (by omega), te_v e (by decide) (by omega)]
    refine ⟨a, b, c, fun i i0 i1 i2 => ?_, fun k k0 k1 => ?_⟩
    · rw [te_v e (by omega) i1]; exact d i i0 i1 i2
    · have hb := bpos_r f m h6 k0 k1 a
      rw [te_v e hb.1 hb.2]; exact g k k0 k1
theorem te_pcode (h6 : 1 ≤ f 6) : pcode f (te m e) m tol = pcode f e m tol := by
  unfold pcode
  rw [te_pok f e m tol h6]
  by_cases hp : pok f e m tol
  · rw [cif_t hp, cif_t hp]
    refine csum_e f _ (fun k hk => ?_)
    have hb := bpos_r f m h6 (k := k) (by omega) (by omega) hp.1
    unfold pbv
    rw [te_v e hb.1 hb.2]
  · rw [cif_f hp, cif_f hp]
theorem te_xcode (h6 : 1 ≤ f 6) : xcode f (te m e) m tol = xcode f e m tol := by unfold xcode; rw [te_phcode, te_pcode f e m tol h6]
theorem te_xshort : xshort f (te m e) m tol = xshort f e m tol := by
  apply propext; unfold xshort
  constructor
  · rintro ⟨a, b, c, d, g⟩
    rw [te_v e (by decide) (by omega)] at c d g
    exact ⟨a, b, c, d, g⟩
  · rintro ⟨a, b, c, d, g⟩
    rw [te_v e (by decide) (by omega), te_v e (by decide) (by omega), te_v e (by decide) (by omega)]
    exact ⟨a, b, c, d, g⟩
end
theorem te_dec {F : Nat → Int → Int} {n : Nat} (hF : ∀ q, q < n → 1 ≤ F q 6) (e : Int → Int) (m tol : Int) : dec F n (te m e) m tol = dec F n e m tol := by
  have h1 : ∀ k q, q + k = n → dec1 F (te m e) m tol k q = dec1 F e m tol k q := by
    intro k
    induction k with
    | zero => intro q _; rfl
    | succ k ih => intro q hq; rw [dec1, dec1, ih (q + 1) (by omega), te_xcode _ _ _ _ (hF q (by omega))]
  have h2 : ∀ k q, q + k = n → dec2 F (te m e) m tol k q = dec2 F e m tol k q := by
    intro k
    induction k with
    | zero => intro q _; rfl
    | succ k ih => intro q hq; rw [dec2, dec2, ih (q + 1) (by omega), te_xshort]
  unfold dec; rw [h1 n 0 (by omega), h2 n 0 (by omega)]
theorem dec_e {F : Nat → Int → Int} {n : Nat} (hF : ∀ q, q < n → 1 ≤ F q 6) {e e' : Int → Int} {m : Int} (tol : Int) (h : ∀ k, 0 ≤ k → k < m → e k = e' k) : dec F n e m tol = dec F n e' m tol := by
  have ht : te m e = te m e' := by
    funext k; unfold te
    split
    · rename_i hk; exact h k hk.1 hk.2
    · rfl
  rw [← te_dec hF e, ← te_dec hF e', ht]
section
variable {σ : Int → Int} {v : Int}
theorem Lσ_u (hV : V σ) {s : Nat} (hs : s < 3) : Lσ (uσ σ 2 v) s = Lσ σ s := by
  have ht := (σ_tr hV hs).1
  unfold Lσ
  rw [uσ_o (by omega), uσ_o (by omega)]
  refine FS_congr ht.1 (fun i i0 i1 => ?_)
  unfold dσ
  rw [uσ_o (by omega)]
theorem dσ_u {s : Nat} {j : Int} (h : 0 ≤ j) : dσ (uσ σ 2 v) s j = dσ σ s j := by
  unfold dσ
  rw [uσ_o (by omega)]
theorem dcd_u (hV : V σ) {s i : Nat} (hs : s < 3) (hi : i < (Lσ σ s).length) (t : Int) : dcd (uσ σ 2 v) (dσ (uσ σ 2 v) s) ((uσ σ 2 v) (83 + s)) t i = dcd σ (dσ σ s) (σ (83 + s)) t i := by
  have ht := (σ_tr hV hs).1
  have hG : fsG (σ (83 + s)) (gl (Lσ σ s) i) := FS_g ht.1 hi
  unfold fsG at hG
  have hL : FS (dσ (uσ σ 2 v) s) ((uσ σ 2 v) (83 + s)) ((uσ σ 2 v) 0) = FS (dσ σ s) (σ (83 + s)) (σ 0) := Lσ_u hV hs
  have hn : nσ (uσ σ 2 v) = nσ σ := by unfold nσ; rw [uσ_o (by decide)]
  have hF6 : ∀ q, q < nσ σ → 1 ≤ Fσ σ q 6 := fun q hq => (hV.2.2.2.2.2.1 q (by have := V_n hV; omega)).2.2.2.2.2.1.1
  unfold dcd
  rw [hL, hn]
  have h1 : dec (Fσ (uσ σ 2 v)) (nσ σ) (fun k => dσ (uσ σ 2 v) s ((gl (FS (dσ σ s) (σ (83 + s)) (σ 0)) i).1 + k)) (gl (FS (dσ σ s) (σ (83 + s)) (σ 0)) i).2 t = dec (Fσ σ) (nσ σ) (fun k => dσ (uσ σ 2 v) s ((gl (FS (dσ σ s) (σ (83 + s)) (σ 0)) i).1 + k)) (gl (FS (dσ σ s) (σ (83 + s)) (σ 0)) i).2 t := dec_c (fun q hq j j0 j1 => by unfold Fσ; rw [uσ_o (by omega)]) _ _ _
  rw [h1]
  refine dec_e hF6 t (fun k k0 k1 => ?_)
  have hG : 0 ≤ (gl (FS (dσ σ s) (σ (83 + s)) (σ 0)) i).1 := hG.1
  exact dσ_u (by omega)
/-- with the needed tolerance all frames decode -/
theorem need_ok (hV : V σ) {s : Nat} (hs : s < 3) {N : Nat} (hN : N = (Lσ σ s).length) (h : ndT σ s N ≠ -9) {i : Nat} (hi : i < N) : (frD (uσ σ 2 (ndT σ s N)) s i).1 ≠ -9 := by
  subst hN
  have hc := exK_c (allT σ s (Lσ σ s).length) 41 0 (by decide)
  have hok : tolOk σ s i (ndT σ s (Lσ σ s).length) := by
    rcases hc with hc | hc
    · exact absurd hc.1 h
    · exact hc.1 i hi
  unfold frD
  rw [uσ_s]
  have := dcd_u (v := ndT σ s (Lσ σ s).length) hV hs hi (ndT σ s (Lσ σ s).length)
  rw [this]
  exact hok
end
/-! Frames follow each other. -/
theorem fsl_chain {d : Int → Int} {gap E : Int} : ∀ (m : Nat) (k a : Int), 0 ≤ a → a < k → ∀ i, i + 1 < (fsl d gap E m k a).length → (gl (fsl d gap E m k a) i).1 + (gl (fsl d gap E m k a) i).2 < (gl (fsl d gap E m k a) (i + 1)).1
  | 0, k, a, _, _, i, h => by simp [fsl] at h
  | m + 1, k, a, h0, ha, i, h => by
    unfold fsl at h ⊢
    by_cases h1 : k < E
    · rw [if_pos h1] at h ⊢
      by_cases h2 : gap < d k
      · rw [if_pos h2] at h ⊢
        cases i with
        | zero =>
          have hl : 0 < (fsl d gap E m (k + 2) (k + 1)).length := by simp only [List.length_cons] at h; omega
          have hg := fsl_ge (d := d) (gap := gap) (E := E) m (k + 2) (k + 1) (by omega) 0 hl
          have e0 : gl ((a, k - a) :: fsl d gap E m (k + 2) (k + 1)) 0 = (a, k - a) := rfl
          have e1 : gl ((a, k - a) :: fsl d gap E m (k + 2) (k + 1)) (0 + 1) = gl (fsl d gap E m (k + 2) (k + 1)) 0 := rfl
          rw [e0, e1]
          show a + (k - a) < _
          omega
        | succ i =>
          have hl : i + 1 < (fsl d gap E m (k + 2) (k + 1)).length := by simp only [List.length_cons] at h; omega
          exact fsl_chain m (k + 2) (k + 1) (by omega) (by omega) i hl
      · rw [if_neg h2] at h ⊢
        exact fsl_chain m (k + 2) a h0 (by omega) i h
    · rw [if_neg h1] at h
      simp at h
theorem FS_chain {d : Int → Int} {n gap : Int} {i : Nat} (h : i + 1 < (FS d n gap).length) : (gl (FS d n gap) i).1 + (gl (FS d n gap) i).2 < (gl (FS d n gap) (i + 1)).1 := by
  unfold FS at h ⊢
  split
  · rename_i h0; rw [if_pos h0] at h; simp at h
  · rename_i h0
    rw [if_neg h0] at h
    exact fsl_chain 200 1 0 (by decide) (by decide) i h
/-! Presses and strays together are the frames. -/
def smP (K : Int → Int) : Nat → Int
  | 0 => 0
  | n + 1 => smP K n + K n
theorem smP_c {K K' : Int → Int} : ∀ n : Nat, (∀ k : Int, 0 ≤ k → k < n → K k = K' k) → smP K n = smP K' n
  | 0, _ => rfl
  | n + 1, h => by rw [smP, smP, smP_c n (fun k k0 k1 => h k k0 (by omega)), h n (by omega) (by omega)]
theorem smP_up {K : Int → Int} {a : Int} : ∀ n : Nat, 0 ≤ a → a < n → smP (st1 K a (K a + 1)) n = smP K n + 1
  | 0, h0, h1 => by omega
  | n + 1, h0, h1 => by
    rw [smP, smP]
    by_cases ha : a = n
    · rw [smP_c (K' := K) n (fun k k0 k1 => by unfold st1; rw [if_neg (by omega)])]
      unfold st1; rw [if_pos ha.symm, ha]; omega
    · rw [smP_up n h0 (by omega)]
      unfold st1; rw [if_neg (by omega)]; omega
/-- what is counted so far, as long as the list isn't full -/
def PS (s : PT) (i : Nat) : Prop := 0 ≤ s.1.2.2.2.2.1 ∧ (s.1.2.2.2.2.1 < 30 → (s.1.1 = 1 → 0 ≤ s.1.2.1 ∧ s.1.2.1 < s.1.2.2.2.2.1) ∧ s.1.2.2.2.2.2 + smP s.2.2.2 s.1.2.2.2.2.1.toNat = i)
theorem PS_st {i : Nat} {D : Int × Int} {nb hold : Int} {rep : Int → Int} {s : PT} (hs : PS s i) : PS (pst D nb hold rep s) (i + 1) := by
  obtain ⟨⟨h, lk, lp, lc, n, st⟩, P, C, K⟩ := s
  obtain ⟨n0, hn⟩ := hs
  simp only at n0 hn
  unfold pst
  split
  · rename_i hg
    have h1 : h = 1 := hg.1
    refine ⟨n0, fun hlt => ?_⟩
    simp only at hlt ⊢
    obtain ⟨a, b⟩ := hn hlt
    obtain ⟨a0, a1⟩ := a h1
    refine ⟨a, ?_⟩
    rw [if_pos a0, smP_up n.toNat a0 (by omega)]; omega
  · split
    · split
      · rename_i hlt0
        simp only at hlt0
        refine ⟨by simp only; omega, fun hlt => ?_⟩
        simp only at hlt ⊢
        obtain ⟨a, b⟩ := hn (by omega)
        refine ⟨fun _ => by omega, ?_⟩
        rw [show (n + 1).toNat = n.toNat + 1 by omega, smP, smP_c (K' := K) n.toNat (fun k k0 k1 => by unfold st1; rw [if_neg (by omega)])]
        unfold st1; rw [if_pos (by omega)]; omega
      · rename_i hlt0
        simp only at hlt0
        refine ⟨n0, fun hlt => ?_⟩
        simp only at hlt
        omega
    · refine ⟨n0, fun hlt => ?_⟩
      simp only at hlt ⊢
      obtain ⟨a, b⟩ := hn hlt
      exact ⟨fun h => by omega, by omega⟩
theorem PS_f (σ : Int → Int) (s : Nat) : ∀ i, PS (psσ σ s i) i
  | 0 => by
    unfold PS
    simp [psσ, psf, smP]
  | i + 1 => PS_st (PS_f σ s i)
