/-! Clusters: the model; clusters(). -/
section
variable {p : Nat → Nat} {z l : Nat → Int → Int}
end
def Lσ (σ : Int → Int) (s : Nat) : List (Int × Int) := FS (dσ σ s) (σ (83 + s)) (σ 0)
def lcl (σ : Int → Int) (s : Nat) (side : Int) : List Int := cmeans (insA (dσ σ s) (Lσ σ s) side (Lσ σ s).length)
def noL (σ : Int → Int) (s : Nat) : Prop := σ (83 + s) = 0 ∨ (gl (Lσ σ s) 0).2 < 5
theorem lcl_r {σ : Int → Int} {s : Nat} (hV : V σ) (hs : s < 3) (hn : ¬noL σ s) (side : Int) : (lcl σ s side).length ≤ 200 ∧ ∀ v ∈ lcl σ s side, 0 ≤ v ∧ v ≤ 60000 := by
  have ht := σ_tr hV hs
  unfold noL at hn
  have h := insA_r (d := dσ σ s) (gap := σ 0) ht.1.1 ht.2 (by unfold Lσ at hn; omega) side (Lσ σ s).length (Nat.le_refl _)
  have hA : Dr (insA (dσ σ s) (Lσ σ s) side (Lσ σ s).length) := h.1
  have hr := ckS_r (insA (dσ σ s) (Lσ σ s) side (Lσ σ s).length).2 (insA (dσ σ s) (Lσ σ s) side (Lσ σ s).length).1 (insA (dσ σ s) (Lσ σ s) side (Lσ σ s).length).1.toNat
  have hm := ckS_m (f := (insA (dσ σ s) (Lσ σ s) side (Lσ σ s).length).2) (n := (insA (dσ σ s) (Lσ σ s) side (Lσ σ s).length).1) (insA (dσ σ s) (Lσ σ s) side (Lσ σ s).length).1.toNat (fun i hi => hA.2 i (by omega) (by omega))
  have h2 := h.2.1
  have h3 := hA.1
  refine ⟨?_, hm⟩
  unfold lcl cmeans
  have h2 : (insA (dσ σ s) (Lσ σ s) side (Lσ σ s).length).1 ≤ σ (83 + s) := h2
  omega
section
variable {p : Nat → Nat} {z l : Nat → Int → Int}
end
