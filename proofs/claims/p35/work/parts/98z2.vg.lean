/-! The class's calls that change: when they go, their answers, the new row; with any arguments. -/
section
variable {σ : Int → Int}
theorem vg_gap {v : Int} : VG (fun σ => if 1000 ≤ v ∧ v ≤ 60000 then σ 0 else -1) (fun _ => 1000 ≤ v ∧ v ≤ 60000) (fun σ => uσ σ 0 v) := by
  intro σ hV
  have h0 := hV.1
  refine ⟨fun hg => ⟨V_u (Or.inl ⟨rfl, hg⟩) hV, ?_⟩, fun hg => ?_⟩
  · simp only [if_pos hg]; omega
  · simp only [if_neg hg]; omega
theorem vg_hold {v : Int} : VG (fun σ => if 1000 ≤ v ∧ v ≤ 60000 then σ 1 else -1) (fun _ => 1000 ≤ v ∧ v ≤ 60000) (fun σ => uσ σ 1 v) := by
  intro σ hV
  have h0 := hV.2.1
  refine ⟨fun hg => ⟨V_u (Or.inr (Or.inl ⟨rfl, hg⟩)) hV, ?_⟩, fun hg => ?_⟩
  · simp only [if_pos hg]; omega
  · simp only [if_neg hg]; omega
theorem vg_tol {v : Int} : VG (fun σ => if 0 ≤ v ∧ v ≤ 40 then σ 2 else -1) (fun _ => 0 ≤ v ∧ v ≤ 40) (fun σ => uσ σ 2 v) := by
  intro σ hV
  have h0 := hV.2.2.1
  refine ⟨fun hg => ⟨V_u (Or.inr (Or.inr ⟨rfl, hg⟩)) hV, ?_⟩, fun hg => ?_⟩
  · simp only [if_pos hg]; omega
  · simp only [if_neg hg]; omega
theorem vg_clear {s : Int} : VG (fun σ => if 0 ≤ s ∧ s ≤ 2 then σ (83 + s) else -1) (fun _ => 0 ≤ s ∧ s ≤ 2) (fun σ => tσ σ s.toNat (0, fun _ => 0)) := by
  intro σ hV
  refine ⟨fun hg => ⟨V_t (by omega) ⟨by decide, fun i i0 i1 => by simp only at i1; omega⟩ hV, ?_⟩, fun hg => ?_⟩
  · have ht := (σ_tr hV (s := s.toNat) (by omega)).1
    rw [show ((s.toNat : Nat) : Int) = s by omega] at ht
    simp only [if_pos hg]; omega
  · simp only [if_neg hg]; omega
theorem vg_append {s v : Int} : VG (fun σ => if 0 ≤ s ∧ s ≤ 2 then (if 1 ≤ v ∧ v ≤ 60000 then (if σ (83 + s) < 200 then σ (83 + s) + 1 else -3) else -1) else -1) (fun σ => (0 ≤ s ∧ s ≤ 2) ∧ (1 ≤ v ∧ v ≤ 60000) ∧ σ (83 + s) < 200) (fun σ => tσ σ s.toNat (fput v (σ (83 + s), dσ σ s.toNat))) := by
  intro σ hV
  refine ⟨fun hg => ?_, fun hg => ?_⟩
  · obtain ⟨h1, h3, h4⟩ := hg
    have ht := σ_tr hV (s := s.toNat) (by omega)
    rw [show ((s.toNat : Nat) : Int) = s by omega] at ht
    refine ⟨V_t (by omega) ⟨?_, fun i i0 i1 => ?_⟩ hV, ?_⟩
    · unfold fput; simp only; omega
    · unfold fput at i1 ⊢
      simp only at i1 ⊢
      split
      · omega
      · exact ht.2 i i0 (by omega)
    · simp only [if_pos h1, if_pos h3, if_pos h4]; omega
  · by_cases h1 : 0 ≤ s ∧ s ≤ 2
    · by_cases h3 : 1 ≤ v ∧ v ≤ 60000
      · by_cases h4 : σ (83 + s) < 200
        · exact absurd ⟨h1, h3, h4⟩ hg
        · simp only [if_pos h1, if_pos h3, if_neg h4]; omega
      · simp only [if_pos h1, if_neg h3]; omega
    · simp only [if_neg h1]; omega
theorem vg_addP {k bi o r : Int} : VG (fun σ => if 0 ≤ k ∧ k ≤ 2 then (if 1 ≤ bi ∧ bi ≤ 16 then (if 0 ≤ o ∧ o ≤ 1 then (if 0 ≤ r ∧ r ≤ 2 then (if σ 3 < 6 then σ 3 else -3) else -1) else -1) else -1) else -1) (fun σ => (0 ≤ k ∧ k ≤ 2) ∧ (1 ≤ bi ∧ bi ≤ 16) ∧ (0 ≤ o ∧ o ≤ 1) ∧ (0 ≤ r ∧ r ≤ 2) ∧ σ 3 < 6) (fun σ => addP σ k bi o r 9000 4500 560 (if k = 2 then 0 else 560) (if k = 2 then 0 else 1690)) := by
  intro σ hV
  have v3 := hV.2.2.2.1
  refine ⟨fun hg => ?_, fun hg => ?_⟩
  · obtain ⟨h1, h3, h4, h5, h7⟩ := hg
    refine ⟨V_addP hV h7 h1 h3 h4 h5 (by decide) (by decide) (by decide) (by omega), ?_⟩
    simp only [if_pos h1, if_pos h3, if_pos h4, if_pos h5, if_pos h7]; omega
  · by_cases h1 : 0 ≤ k ∧ k ≤ 2
    · by_cases h3 : 1 ≤ bi ∧ bi ≤ 16
      · by_cases h4 : 0 ≤ o ∧ o ≤ 1
        · by_cases h5 : 0 ≤ r ∧ r ≤ 2
          · by_cases h7 : σ 3 < 6
            · exact absurd ⟨h1, h3, h4, h5, h7⟩ hg
            · simp only [if_pos h1, if_pos h3, if_pos h4, if_pos h5, if_neg h7]; omega
          · simp only [if_pos h1, if_pos h3, if_pos h4, if_neg h5]; omega
        · simp only [if_pos h1, if_pos h3, if_neg h4]; omega
      · simp only [if_pos h1, if_neg h3]; omega
    · simp only [if_neg h1]; omega
theorem PV_q (hV : V σ) {q : Int} (h : 0 ≤ q ∧ q < σ 3) : PV (Fσ σ q.toNat) := hV.2.2.2.2.2.1 q.toNat (by omega)
theorem vg_addB {q c : Int} : VG (fun σ => A_addB σ q c) (fun σ => G_addB σ q c) (fun σ => addB σ q (idn (Fσ σ q.toNat) c)) := by
  intro σ hV
  have v58 := hV.2.2.2.2.1
  refine ⟨fun hg => ?_, fun hg => ?_⟩
  · obtain ⟨h1, h3, h5, h7⟩ := hg
    have hP := PV_q hV h1
    have hw := pw_r (k := Fσ σ q.toNat 6) (by have := hP.2.2.2.2.2.1; omega) (by have := hP.2.2.2.2.2.1; omega)
    have hi := idn_r (f := Fσ σ q.toNat) h3.1
    refine ⟨V_addB hV h7 h1 (by omega), ?_⟩
    simp only [A_addB, if_pos h1, if_pos h3, if_pos h5, if_pos h7]; omega
  · simp only [A_addB]
    by_cases h1 : 0 ≤ q ∧ q < σ 3
    · by_cases h3 : 0 ≤ c ∧ c < pw (Fσ σ q.toNat 6)
      · by_cases h5 : fBσ σ q (idn (Fσ σ q.toNat) c) = -9
        · by_cases h7 : σ 58 < 12
          · exact absurd ⟨h1, h3, h5, h7⟩ hg
          · simp only [if_pos h1, if_pos h3, if_pos h5, if_neg h7]; omega
        · simp only [if_pos h1, if_pos h3, if_neg h5]; omega
      · simp only [if_pos h1, if_neg h3]; omega
    · simp only [if_neg h1]; omega
theorem vg_lens {q u1 u2 u3 u4 u5 : Int} : VG (fun σ => if 0 ≤ q ∧ q < σ 3 then cif (lensOk (σ (4 + 9 * q)) u1 u2 u3 u4 u5) (σ (4 + 9 * q + 3)) (-1) else -1) (fun σ => (0 ≤ q ∧ q < σ 3) ∧ lensOk (σ (4 + 9 * q)) u1 u2 u3 u4 u5) (fun σ => lσ σ q.toNat u1 u2 u3 u4 u5) := by
  intro σ hV
  refine ⟨fun hg => ?_, fun hg => ?_⟩
  · obtain ⟨h1, hl⟩ := hg
    have hP := PV_q hV h1
    have e : ((q.toNat : Nat) : Int) = q := by omega
    have h3 : 50 ≤ σ (4 + 9 * ((q.toNat : Nat) : Int) + 3) ∧ σ (4 + 9 * ((q.toNat : Nat) : Int) + 3) ≤ 20000 := hP.2.2.2.1
    rw [e] at h3
    refine ⟨V_l hV (by omega) (by rw [e, Int.add_zero]; exact hl), ?_⟩
    simp only [if_pos h1, cif_t hl]; omega
  · by_cases h1 : 0 ≤ q ∧ q < σ 3
    · by_cases hl : lensOk (σ (4 + 9 * q)) u1 u2 u3 u4 u5
      · exact absurd ⟨h1, hl⟩ hg
      · simp only [if_pos h1, cif_f hl]; omega
    · simp only [if_neg h1]; omega
theorem vg_learn {s : Int} : VG (fun σ => A_learn σ s) (fun σ => G_learn σ s) (fun σ => lnP σ s.toNat) := by
  intro σ hV
  have v3 := hV.2.2.2.1
  refine ⟨fun hg => ?_, fun hg => ?_⟩
  · obtain ⟨h1, hn, ho, h6⟩ := hg
    refine ⟨V_lnP hV (by omega) hn ho h6, ?_⟩
    simp only [A_learn, if_pos h1, cif_f hn, cif_t ho, if_pos h6]; omega
  · simp only [A_learn]
    by_cases h1 : 0 ≤ s ∧ s ≤ 2
    · by_cases hn : noL σ s.toNat
      · simp only [if_pos h1, cif_t hn]; omega
      · by_cases ho : lnO σ s.toNat
        · by_cases h6 : σ 3 < 6
          · exact absurd ⟨h1, hn, ho, h6⟩ hg
          · simp only [if_pos h1, cif_f hn, cif_t ho, if_neg h6]; omega
        · simp only [if_pos h1, cif_f hn, cif_f ho]; omega
    · simp only [if_neg h1]; omega
theorem snd_g {s : Nat} {x : Dn} (hV : V σ) (hs : s < 3) (hx : 0 ≤ x.1) : (G_snd σ s x → 0 ≤ A_snd σ s x ∧ A_snd σ s x ≤ 200) ∧ (¬G_snd σ s x → A_snd σ s x = -2 ∨ A_snd σ s x = -3) := by
  have ht := (σ_tr hV hs).1
  have hn : 0 ≤ nd (σ (83 + s)) := by unfold nd; split <;> omega
  unfold A_snd G_snd
  by_cases h1 : 0 < σ (83 + s) ∧ σ (83 + s) % 2 = 0
  · rw [if_pos h1]
    exact ⟨fun h => absurd h1 h.1, fun _ => Or.inl rfl⟩
  · rw [if_neg h1]
    by_cases h2 : σ (83 + s) + nd (σ (83 + s)) + x.1 ≤ 200
    · rw [if_pos h2]
      exact ⟨fun _ => by omega, fun h => absurd ⟨h1, h2⟩ h⟩
    · rw [if_neg h2]
      exact ⟨fun h => absurd h.2 h2, fun _ => Or.inr rfl⟩
theorem vg_send {s q c sp : Int} : VG (fun σ => A_send σ s q c sp) (fun σ => G_send σ s q c sp) (fun σ => tσ σ s.toNat (sdT σ s.toNat sp (frC σ q c))) := by
  intro σ hV
  refine ⟨fun hg => ?_, fun hg => ?_⟩
  · obtain ⟨h1, h2, h3, h4, h5⟩ := hg
    have hs3 : s.toNat < 3 := by omega
    have hgx : Gd (frC σ q c) := (Gd_frm c (PV_q hV h2)).1
    refine ⟨V_t hs3 (Gd_sdT hV hs3 h4 hgx h5.2) hV, ?_⟩
    have := (snd_g hV hs3 hgx.1.1).1 h5
    simp only [A_send, if_pos h1, if_pos h2, if_pos h3, if_pos h4]; omega
  · simp only [A_send]
    by_cases h1 : 0 ≤ s ∧ s ≤ 2
    · by_cases h2 : 0 ≤ q ∧ q < σ 3
      · by_cases h3 : 0 ≤ c ∧ c < pw (Fσ σ q.toNat 6)
        · by_cases h4 : 1 ≤ sp ∧ sp ≤ 60000
          · have hgx : Gd (frC σ q c) := (Gd_frm c (PV_q hV h2)).1
            have := (snd_g hV (s := s.toNat) (by omega) hgx.1.1).2 (fun h => hg ⟨h1, h2, h3, h4, h⟩)
            simp only [if_pos h1, if_pos h2, if_pos h3, if_pos h4]; omega
          · simp only [if_pos h1, if_pos h2, if_pos h3, if_neg h4]; omega
        · simp only [if_pos h1, if_pos h2, if_neg h3]; omega
      · simp only [if_pos h1, if_neg h2]; omega
    · simp only [if_neg h1]; omega
theorem vg_sendS {s q sp : Int} : VG (fun σ => A_sendS σ s q sp) (fun σ => G_sendS σ s q sp) (fun σ => tσ σ s.toNat (sdT σ s.toNat sp (frH σ q))) := by
  intro σ hV
  refine ⟨fun hg => ?_, fun hg => ?_⟩
  · obtain ⟨h1, h2, h4, h5⟩ := hg
    have hs3 : s.toNat < 3 := by omega
    have hgx : Gd (frH σ q) := (Gd_frs (PV_q hV h2)).1
    refine ⟨V_t hs3 (Gd_sdT hV hs3 h4 hgx h5.2) hV, ?_⟩
    have := (snd_g hV hs3 hgx.1.1).1 h5
    simp only [A_sendS, if_pos h1, if_pos h2, if_pos h4]; omega
  · simp only [A_sendS]
    by_cases h1 : 0 ≤ s ∧ s ≤ 2
    · by_cases h2 : 0 ≤ q ∧ q < σ 3
      · by_cases h4 : 1 ≤ sp ∧ sp ≤ 60000
        · have hgx : Gd (frH σ q) := (Gd_frs (PV_q hV h2)).1
          have := (snd_g hV (s := s.toNat) (by omega) hgx.1.1).2 (fun h => hg ⟨h1, h2, h4, h⟩)
          simp only [if_pos h1, if_pos h2, if_pos h4]; omega
        · simp only [if_pos h1, if_pos h2, if_neg h4]; omega
      · simp only [if_pos h1, if_neg h2]; omega
    · simp only [if_neg h1]; omega
theorem vg_dist {s c w : Int} : VG (fun σ => A_dist σ s c w) (fun _ => G_dist s c w) (fun σ => tσ σ s.toNat (dsT σ s.toNat (sgn w c))) := by
  intro σ hV
  refine ⟨fun hg => ?_, fun hg => ?_⟩
  · obtain ⟨h1, h3, h4⟩ := hg
    have hs3 : s.toNat < 3 := by omega
    have ht := (σ_tr hV hs3).1
    rw [show ((s.toNat : Nat) : Int) = s by omega] at ht
    refine ⟨V_t hs3 (Gd_dsT hV hs3) hV, ?_⟩
    have := stc_r (dσ σ s.toNat) (sgn w c) (σ (83 + s)).toNat
    simp only [A_dist, if_pos h1, if_pos h3, if_pos h4]; omega
  · simp only [A_dist]
    by_cases h1 : 0 ≤ s ∧ s ≤ 2
    · by_cases h3 : 0 ≤ c ∧ c ≤ 30
      · by_cases h4 : 0 ≤ w ∧ w ≤ 1
        · exact absurd ⟨h1, h3, h4⟩ hg
        · simp only [if_pos h1, if_pos h3, if_neg h4]; omega
      · simp only [if_pos h1, if_neg h3]; omega
    · simp only [if_neg h1]; omega
theorem vg_over {s t o : Int} : VG (fun σ => A_ov σ s t o) (fun σ => G_ov σ s t o) (fun σ => tσ σ s.toNat (ovX (ovD σ s.toNat t.toNat o))) := by
  intro σ hV
  refine ⟨fun hg => ?_, fun hg => ?_⟩
  · obtain ⟨h1, h2, h3, h4, h5, h6, h7⟩ := hg
    refine ⟨V_t (by omega) (Gd_ov hV (by omega) (by omega) h4 h7) hV, ?_⟩
    have := h7.1
    simp only [A_ov, if_pos h1, if_pos h2, if_neg h3, if_pos h4, if_pos h5, if_pos h6, cif_t h7]; omega
  · simp only [A_ov]
    by_cases h1 : 0 ≤ s ∧ s ≤ 2
    · by_cases h2 : 0 ≤ t ∧ t ≤ 2
      · by_cases h3 : s = t
        · simp only [if_pos h1, if_pos h2, if_pos h3]; omega
        · by_cases h4 : 0 ≤ o ∧ o ≤ 60000
          · by_cases h5 : σ (83 + s) % 2 = 1
            · by_cases h6 : σ (83 + t) % 2 = 1
              · by_cases h7 : oOk (ovD σ s.toNat t.toNat o)
                · exact absurd ⟨h1, h2, h3, h4, h5, h6, h7⟩ hg
                · simp only [if_pos h1, if_pos h2, if_neg h3, if_pos h4, if_pos h5, if_pos h6, cif_f h7]; omega
              · simp only [if_pos h1, if_pos h2, if_neg h3, if_pos h4, if_pos h5, if_neg h6]; omega
            · simp only [if_pos h1, if_pos h2, if_neg h3, if_pos h4, if_neg h5]; omega
          · simp only [if_pos h1, if_pos h2, if_neg h3, if_neg h4]; omega
      · simp only [if_pos h1, if_neg h2]; omega
    · simp only [if_neg h1]; omega
end
section
variable {p : Nat → Nat} {z l : Nat → Int → Int} {σ : Int → Int} {n : Int} {h : Int → Int → Int} (a b c d e f : Int32)
theorem d_addProtocol (hR : RX p z σ n h) : WP (f_X11_addProtocol 0 a b c d (M p z l)) (DO σ n h) := by
  obtain ⟨s, hs, rfl⟩ := i3x a
  obtain ⟨t, ht, rfl⟩ := i3x b
  obtain ⟨u, hu, rfl⟩ := i3x c
  obtain ⟨v, hv, rfl⟩ := i3x d
  exact chg (x_addProtocol hs ht hu hv) vg_addP hR
theorem d_setLengths (hR : RX p z σ n h) : WP (f_X11_setLengths 0 a b c d e f (M p z l)) (DO σ n h) := by
  obtain ⟨s, hs, rfl⟩ := i3x a
  obtain ⟨t, ht, rfl⟩ := i3x b
  obtain ⟨u, hu, rfl⟩ := i3x c
  obtain ⟨v, hv, rfl⟩ := i3x d
  obtain ⟨w, hw, rfl⟩ := i3x e
  obtain ⟨x, hx, rfl⟩ := i3x f
  exact chg (x_setLengths hs ht hu hv hw hx) vg_lens hR
theorem d_addButton (hR : RX p z σ n h) : WP (f_X11_addButton 0 a b (M p z l)) (DO σ n h) := by
  obtain ⟨s, hs, rfl⟩ := i3x a
  obtain ⟨t, ht, rfl⟩ := i3x b
  exact chg (x_addButton hs ht) vg_addB hR
theorem d_learn (hR : RX p z σ n h) : WP (f_X11_learn 0 a (M p z l)) (DO σ n h) := by
  obtain ⟨s, hs, rfl⟩ := i3x a
  exact chg (x_learn hs) vg_learn hR
theorem d_setGap (hR : RX p z σ n h) : WP (f_X11_setGap 0 a (M p z l)) (DO σ n h) := by
  obtain ⟨s, hs, rfl⟩ := i3x a
  exact chg (x_setGap hs) vg_gap hR
theorem d_setHold (hR : RX p z σ n h) : WP (f_X11_setHold 0 a (M p z l)) (DO σ n h) := by
  obtain ⟨s, hs, rfl⟩ := i3x a
  exact chg (x_setHold hs) vg_hold hR
theorem d_setTolerance (hR : RX p z σ n h) : WP (f_X11_setTolerance 0 a (M p z l)) (DO σ n h) := by
  obtain ⟨s, hs, rfl⟩ := i3x a
  exact chg (x_setTolerance hs) vg_tol hR
theorem d_clear (hR : RX p z σ n h) : WP (f_X11_clear 0 a (M p z l)) (DO σ n h) := by
  obtain ⟨s, hs, rfl⟩ := i3x a
  exact chg (x_clear hs) vg_clear hR
theorem d_overlay (hR : RX p z σ n h) : WP (f_X11_overlay 0 a b c (M p z l)) (DO σ n h) := by
  obtain ⟨s, hs, rfl⟩ := i3x a
  obtain ⟨t, ht, rfl⟩ := i3x b
  obtain ⟨u, hu, rfl⟩ := i3x c
  exact chg (x_overlay hs ht hu) vg_over hR
theorem d_distort (hR : RX p z σ n h) : WP (f_X11_distort 0 a b c (M p z l)) (DO σ n h) := by
  obtain ⟨s, hs, rfl⟩ := i3x a
  obtain ⟨t, ht, rfl⟩ := i3x b
  obtain ⟨u, hu, rfl⟩ := i3x c
  exact chg (x_distort hs ht hu) vg_dist hR
theorem d_sendShort (hR : RX p z σ n h) : WP (f_X11_sendShort 0 a b c (M p z l)) (DO σ n h) := by
  obtain ⟨s, hs, rfl⟩ := i3x a
  obtain ⟨t, ht, rfl⟩ := i3x b
  obtain ⟨u, hu, rfl⟩ := i3x c
  exact chg (x_sendShort hs ht hu) vg_sendS hR
theorem d_append (hR : RX p z σ n h) : WP (f_X11_append 0 a b (M p z l)) (DO σ n h) := by
  obtain ⟨s, hs, rfl⟩ := i3x a
  obtain ⟨t, ht, rfl⟩ := i3x b
  exact chg (x_append hs ht) vg_append hR
theorem d_send (hR : RX p z σ n h) : WP (f_X11_send 0 a b c d (M p z l)) (DO σ n h) := by
  obtain ⟨s, hs, rfl⟩ := i3x a
  obtain ⟨t, ht, rfl⟩ := i3x b
  obtain ⟨u, hu, rfl⟩ := i3x c
  obtain ⟨v, hv, rfl⟩ := i3x d
  exact chg (x_send hs ht hu hv) vg_send hR
end
