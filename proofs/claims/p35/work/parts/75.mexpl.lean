/-! explain(): the model. -/
theorem lf_mem {D : List Int} {i : Int} (h0 : 0 ≤ i) (h1 : i < D.length) : lf D i ∈ D := by
  unfold lf
  rw [List.getD_eq_getElem?_getD, List.getElem?_eq_getElem (show i.toNat < D.length by omega)]
  exact List.getElem_mem _
theorem colD_g {x y : Dn} {o : Int} (hx : Gd x) (hy : Gd y) (ho : 0 ≤ o ∧ o ≤ 60000) : ∀ v ∈ colD x y o, 1 ≤ v ∧ v ≤ 13000000 := dall_g (mrg_g hx hy ho 400 0 0)
section
variable {p : Nat → Nat} {z l : Nat → Int → Int}
end
