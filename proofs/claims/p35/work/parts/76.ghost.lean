/-! ghosts(). -/
noncomputable def gDt (σ : Int → Int) (D : List Int) (k : Nat) : Int × Int := dcd σ (lf D) D.length (σ 2) k
def gLn (σ : Int → Int) (D : List Int) : Nat := (FS (lf D) D.length (σ 0)).length
noncomputable def gSh (σ : Int → Int) (D : List Int) (k : Nat) : Int := fBσ σ (gDt σ D k).1 (idn (Fσ σ (gDt σ D k).1.toNat) (gDt σ D k).2)
def ghk (σ : Int → Int) (D : List Int) (i j : Int) (k : Nat) : Prop := (gDt σ D k).2 ≠ -9 ∧ gSh σ D k ≠ -9 ∧ gSh σ D k ≠ i ∧ gSh σ D k ≠ j
def gh (σ : Int → Int) (o i j : Int) : Prop := ∃ k : Nat, k < gLn σ (colD (bσ σ i) (bσ σ j) o) ∧ ghk σ (colD (bσ σ i) (bσ σ j) o) i j k
section
variable {p : Nat → Nat} {z l : Nat → Int → Int}
end
