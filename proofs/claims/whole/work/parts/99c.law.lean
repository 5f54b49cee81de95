/-! THE LAW: rows that read the script; what is the same at every call. -/
section Law
variable {X : BX} {D : va_G} {cy : Nat → ClassId} {b : Nat} {y : MethodName} {cc : ByteArray} {nL : Nat} {ret : Option FieldType} {rm : Room} {r : Option Value} {μ μ' : MS} {kc ks pc : Nat} {lv : List (Nat × Value)} {st : List Value}
theorem r_sld (hB : BB X D cy b y cc nL ret rm) {sa L : Nat} {sv : Nat → Int32} (hX : va_X sa L sv (xs X) (xs X).heap) (hsa : sa < (xs X).heap.size) (hb : (xs X).heap.size ≤ b) {i : Int32} (hin : vp_in i L) (hd : decode cc pc = .ok (.iaload, 1)) (k : WW X D cy b r μ' nL kc ks (pc + 1) lv (.int (sv i.toNatClampNeg) :: st) μ) : WW X D cy b r μ' nL kc ks pc lv (.int i :: .ref sa :: st) μ :=
  fun H locs ls cells slots g1 g2 hW hS hl => va_sld hB.1 hB.2.1 hX hsa (A := fun q => b ≤ q) (by show ¬ b ≤ sa; omega) hS hin hd (k H locs ls cells slots g1 g2 hW hS hl)
theorem r_slen (hB : BB X D cy b y cc nL ret rm) {sa L : Nat} {sv : Nat → Int32} (hX : va_X sa L sv (xs X) (xs X).heap) (hsa : sa < (xs X).heap.size) (hb : (xs X).heap.size ≤ b) (hd : decode cc pc = .ok (.arraylength, 1)) (k : WW X D cy b r μ' nL kc ks (pc + 1) lv (.int (nI L) :: st) μ) : WW X D cy b r μ' nL kc ks pc lv (.ref sa :: st) μ :=
  fun H locs ls cells slots g1 g2 hW hS hl => va_slen hB.1 hB.2.1 hX hsa (A := fun q => b ≤ q) (by show ¬ b ≤ sa; omega) hS hd (k H locs ls cells slots g1 g2 hW hS hl)
end Law
/-- the law's own name, as the machine has it -/
def yL (X : BX) : MethodName := ⟨"PulseRemoteLaw", (xM X).name, "([I)Z"⟩
/-- the law's locals -/
abbrev lvL (sa b k : Nat) : List (Nat × Value) := [(0, .ref sa), (1, .ref (b + 0)), (2, .ref (b + 189)), (3, .int (nI k))]
/-- what the law's walk stands on -/
def LW (X : BX) (D : va_G) (cy : Nat → ClassId) (b sa L : Nat) (sv : Nat → Int32) : Prop := BB X D cy b (yL X) code 4 (some .boolean) room_1 ∧ va_X sa L sv (xs X) (xs X).heap ∧ sa < (xs X).heap.size ∧ (xs X).heap.size ≤ b ∧ L ≤ 3584
/-- a call of the law: both sides answer alike, and the next state is of the kind -/
def OpL (X : BX) (D : va_G) (cy : Nat → ClassId) (b sa k tgt : Nat) (p : Nat → Nat) (z l : Nat → Int → Int) : Prop := ∃ p' z' l', RJ p' z' ∧ ∀ (r : Option Value) (μ' : MS), WW X D cy b r μ' 4 0 0 1184 (lvL sa b k) [] (M p' z' l') → WW X D cy b r μ' 4 0 0 tgt (lvL sa b k) [] (M p z l)
theorem nI_plus (k j : Nat) : nI k + nI j = nI (k + j) := (Int32.ofNat_add k j).symm
theorem in_L {k L : Nat} (j : Nat) (x : Int32) (hx : x = nI j) (hj : j < 7) (hk : k + 7 ≤ L) (hL : L ≤ 3584) : vp_in (nI k + x) L := by
  subst hx
  rw [nI_plus]
  exact vp_in_nI (by omega) (by omega)
theorem JT_get {fx fm : MS → Option (Int32 × MS)} (h : JT fx fm) {p : Nat → Nat} {z l : Nat → Int → Int} (hJ : RJ p z) : ∃ (v : Int32) (p1 : Nat → Nat) (z1 l1 : Nat → Int → Int) (p' : Nat → Nat) (z' l' : Nat → Int → Int), fx (M p z l) = some (v, M p1 z1 l1) ∧ fm (M p1 z1 l1) = some (v, M p' z' l') ∧ RJ p' z' := by
  obtain ⟨⟨v, μ1⟩, h1, ⟨p1, z1, l1, e1⟩, ⟨v2, μ2⟩, h2, h3, p', z', l', e2, h4⟩ := h p z l hJ
  simp only at e1 h2 h3 e2
  subst e1 e2 h3
  exact ⟨_, p1, z1, l1, p', z', l', h1, h2, h4⟩
theorem isO_X {α : Type} {p : Nat → Nat} {z l : Nat → Int → Int} {e : Option α} {w : α} (h : e = some w) : (isO (M p z l) 11 0 e).bind some = some w := by rw [iO_0, h]; rfl
theorem isO_Q {α : Type} {p : Nat → Nat} {z l : Nat → Int → Int} {e : Option α} {w : α} (h : e = some w) : (isO (M p z l) 12 189 e).bind some = some w := by rw [iO_189, h]; rfl
