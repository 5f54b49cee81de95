/-! THE CORE: a pure memory, its picture in the heap, and one row an instruction over it. A method of the class is printed (by wip/whole/gen.py, out of the bytecode) as a function in Option over the pure memory; what is proved here is that where the function answers, the machine does the same. -/
def GW : List Cond := lw_tbl.filter goodWord
theorem gw_of {w : Cond} (h : w ∈ lw_tbl) (g : goodWord w = true) : w ∈ GW := List.mem_filter.mpr ⟨h, g⟩
theorem gw_good {w : Cond} (h : w ∈ GW) : w ∈ lw_tbl ∧ goodWord w = true := List.mem_filter.mp h
theorem gw_in {ws : List Cond} (h : ∀ w ∈ ws, w ∈ GW) : GoodIn GW ws := fun w hw => ⟨h w hw, good_of_word (gw_good (h w hw)).2⟩
def isNest : Cond → Bool
  | .fieldLinkNest .. => true
  | .methodLinkNest .. => true
  | _ => false
/-- (nothing here asks for texts) -/
def SW (_ : Nat) (_ : State) : Prop := True
theorem SW.warm {b : Nat} {s U : State} (_ : s.WarmedH U.vm) (_ : ∀ a : Nat, a < s.heap.size → ¬ b ≤ a → U.heap[a]? = s.heap[a]?) (_ : SW b s) : SW b U := trivial
theorem SW.same {b : Nat} {u U : State} (_ : U.vm = u.vm) (_ : U.heap = u.heap) (_ : SW b u) : SW b U := trivial
def NW (b : Nat) (U : State) : Prop := (∀ w ∈ lw_tbl, isNest w = true → va_Nw w U) ∧ (va_AO RX6 U ∧ va_AO RX7 U ∧ va_AO RX10 U) ∧ SW b U
theorem NW.warm {b : Nat} {s U : State} (hW : s.WarmedH U.vm) (hq : ∀ a : Nat, a < s.heap.size → ¬ b ≤ a → U.heap[a]? = s.heap[a]?) (h : NW b s) : NW b U := by
  refine ⟨?_, ⟨h.2.1.1.moved hW.alike, h.2.1.2.1.moved hW.alike, h.2.1.2.2.moved hW.alike⟩, h.2.2.warm hW hq⟩
  intro w hw hn
  have h1 := h.1 w hw hn
  cases w <;> first | (exact absurd hn (by decide)) | (exact va_Nw.warmF hW h1) | (exact va_Nw.warmM hW h1) | (simp [isNest] at hn)
theorem NW.same {b : Nat} {u U : State} (e : u.vm = U.vm) (eh : U.heap = u.heap) (h : NW b u) : NW b U := by
  have hA : u.vm.Alike U.vm := e ▸ Vm.Alike.refl u.vm
  refine ⟨?_, ⟨h.2.1.1.moved hA, h.2.1.2.1.moved hA, h.2.1.2.2.moved hA⟩, h.2.2.same e.symm eh⟩
  intro w hw hn
  have h1 := h.1 w hw hn
  cases w <;> first | (exact va_Nw.same rfl e h1) | (simp [isNest] at hn)
/-- the pure memory: heads (kind, length), ints, longs, references, by number of the cell and place -/
abbrev MS : Type := List (Nat × Nat) × (Nat → Nat → Int32) × (Nat → Nat → Int64) × (Nat → Nat → Option Nat)
def clN (c : Nat) : Nat := match c with
  | 0 => 5
  | 1 => 10
  | 2 => 6
  | 3 => 4
  | 4 => 10
  | 5 => 8
  | 6 => 9
  | 7 => 5
  | 8 => 5
  | 9 => 5
  | 10 => 2
  | 11 => 12
  | _ => 36
def clT (c : Nat) : Nat → FieldType := match c with
  | 0 => tyX0
  | 1 => tyX1
  | 2 => tyX2
  | 3 => tyX3
  | 4 => tyX4
  | 5 => tyX5
  | 6 => tyX6
  | 7 => tyX7
  | 8 => tyX8
  | 9 => tyX9
  | 10 => tyX10
  | 11 => tyX11
  | _ => tyX12
def mv (b : Nat) (μ : MS) (ty : FieldType) (k j : Nat) : Value := match ty with
  | .long => .long (μ.2.2.1 k j)
  | .object _ => va_rf ((μ.2.2.2 k j).map (b + ·))
  | .array _ => va_rf ((μ.2.2.2 k j).map (b + ·))
  | _ => .int (μ.2.1 k j)
def me (b : Nat) (cy : Nat → ClassId) (μ : MS) (k : Nat) (h : Nat × Nat) : va_E :=
  if h.1 < 13 then .inr (h.1, (List.range (clN h.1)).map (fun j => mv b μ (clT h.1 j) k j))
  else if h.1 = 16 then .inl (cy 16, h.2, .inr (.inl (μ.2.2.1 k)))
  else if 18 ≤ h.1 then .inl (cy h.1, h.2, .inr (.inr (.inr (.inr (fun j => (μ.2.2.2 k j).map (b + ·))))))
  else .inl (cy h.1, h.2, .inl (μ.2.1 k))
/-- the heap holds the memory, from b on -/
def Wd (D : va_G) (cy : Nat → ClassId) (b : Nat) (μ : MS) (H : Heap) : Prop :=
  H.size = b + μ.1.length ∧ ∀ (k : Nat) (h : Nat × Nat), μ.1[k]? = some h → va_at D vwCl (b + k, me b cy μ k h) H
abbrev tyA (cy : Nat → ClassId) : List (ClassId × FieldType) := [(cy 15, .int), (cy 14, .char), (cy 15, .int), (cy 16, .long), (cy 15, .int), (cy 18, .object RX6), (cy 19, .object RX7), (cy 20, .object RX10)]
def up2 {α : Type} (f : Nat → Nat → α) (k j : Nat) (x : α) : Nat → Nat → α := fun k' j' => if k' = k ∧ j' = j then x else f k' j'
def uI (μ : MS) (k j : Nat) (x : Int32) : MS := (μ.1, up2 μ.2.1 k j x, μ.2.2.1, μ.2.2.2)
def uL (μ : MS) (k j : Nat) (x : Int64) : MS := (μ.1, μ.2.1, up2 μ.2.2.1 k j x, μ.2.2.2)
def uR (μ : MS) (k j : Nat) (x : Nat) : MS := (μ.1, μ.2.1, μ.2.2.1, up2 μ.2.2.2 k j (some x))
def uRow (μ : MS) (k : Nat) (f : Nat → Int32) : MS := (μ.1, (fun k' => if k' = k then f else μ.2.1 k'), μ.2.2.1, μ.2.2.2)
def fresh (μ : MS) (h : Nat × Nat) : MS := (μ.1 ++ [h], (fun k => if k = μ.1.length then (fun _ => 0) else μ.2.1 k), (fun k => if k = μ.1.length then (fun _ => 0) else μ.2.2.1 k), (fun k => if k = μ.1.length then (fun _ => none) else μ.2.2.2 k))
-- the operations
def gI (μ : MS) (c a j : Nat) : Option Int32 := if μ.1[a]? = some (c, 0) then some (μ.2.1 a j) else none
def gL (μ : MS) (c a j : Nat) : Option Int64 := if μ.1[a]? = some (c, 0) then some (μ.2.2.1 a j) else none
def gR (μ : MS) (c a j : Nat) : Option Nat := if μ.1[a]? = some (c, 0) then μ.2.2.2 a j else none
def pI (μ : MS) (c a j : Nat) (x : Int32) : Option MS := if μ.1[a]? = some (c, 0) then some (uI μ a j x) else none
def pZ (μ : MS) (c a j : Nat) (x : Int32) : Option MS := if μ.1[a]? = some (c, 0) ∧ (x = 0 ∨ x = 1) then some (uI μ a j x) else none
def pL (μ : MS) (c a j : Nat) (x : Int64) : Option MS := if μ.1[a]? = some (c, 0) then some (uL μ a j x) else none
def pR (μ : MS) (c a j : Nat) (x : Nat) : Option MS := if μ.1[a]? = some (c, 0) then some (uR μ a j x) else none
/-- the place in an array of a kind, where the index is within -/
def ix (μ : MS) (t a : Nat) (i : Int32) : Option Nat := match μ.1[a]? with
  | some (t', n) => if t' = t ∧ 0 ≤ i ∧ i.toNatClampNeg < n then some i.toNatClampNeg else none
  | none => none
def aI (μ : MS) (t a : Nat) (i : Int32) : Option Int32 := (ix μ t a i).map (μ.2.1 a)
def aL (μ : MS) (a : Nat) (i : Int32) : Option Int64 := (ix μ 16 a i).map (μ.2.2.1 a)
def aR (μ : MS) (t a : Nat) (i : Int32) : Option Nat := (ix μ t a i).bind (μ.2.2.2 a)
def nrw (t : Nat) (x : Int32) : Int32 := if t = 15 then x else if t = 17 then x &&& 1 else if t = 14 then x.toUInt32.toUInt16.toUInt32.toInt32 else x.toInt8.toInt32
def sI (μ : MS) (t a : Nat) (i x : Int32) : Option MS := (ix μ t a i).map (fun k => uI μ a k (nrw t x))
def sL (μ : MS) (a : Nat) (i : Int32) (x : Int64) : Option MS := (ix μ 16 a i).map (fun k => uL μ a k x)
def sR (μ : MS) (t c a : Nat) (i : Int32) (q : Nat) : Option MS := if μ.1[q]? = some (c, 0) then (ix μ t a i).map (fun k => uR μ a k q) else none
def nO (μ : MS) (c : Nat) : Nat × MS := (μ.1.length, fresh μ (c, 0))
def nA (μ : MS) (t n : Nat) : Nat × MS := (μ.1.length, fresh μ (t, n))
def dvI (x y : Int32) : Option Int32 := if y = 0 then none else some (x / y)
def rmI (x y : Int32) : Option Int32 := if y = 0 then none else some (x - x / y * y)
def dvL (x y : Int64) : Option Int64 := if y = 0 then none else some (x / y)
def mxI (x y : Int32) : Int32 := if x < y then y else x
def abI (x : Int32) : Int32 := if 0 ≤ x then x else 0 - x
def mnI (x y : Int32) : Int32 := if y < x then y else x
/-- a receiver of a class -/
def isO {α : Type} (μ : MS) (c a : Nat) (f : Option α) : Option α := if μ.1[a]? = some (c, 0) then f else none
def cpI (μ : MS) (a0 : Nat) (sp : Int32) (a1 : Nat) (dp n : Int32) : Option MS := match μ.1[a0]?, μ.1[a1]? with
  | some (15, n0), some (15, n1) => if 0 ≤ sp ∧ 0 ≤ dp ∧ 0 ≤ n ∧ sp.toNatClampNeg + n.toNatClampNeg ≤ n0 ∧ dp.toNatClampNeg + n.toNatClampNeg ≤ n1 then some (uRow μ a1 (va_cpy (μ.2.1 a0) (μ.2.1 a1) sp.toNatClampNeg dp.toNatClampNeg n.toNatClampNeg)) else none
  | _, _ => none
/-- a loop: from a state on, again as long as the body says so; none where it doesn't end -/
def lpN {σ ρ : Type} (body : σ → Option (σ ⊕ ρ)) : Nat → σ → Option ρ
  | 0, _ => none
  | n + 1, s => match body s with
    | none => none
    | some (.inr r) => some r
    | some (.inl s') => lpN body n s'
theorem lpN_mono {σ ρ : Type} {body : σ → Option (σ ⊕ ρ)} : ∀ {n m : Nat} {s : σ} {r : ρ}, n ≤ m → lpN body n s = some r → lpN body m s = some r
  | 0, _, _, _, _, h => by simp [lpN] at h
  | n + 1, 0, _, _, hnm, _ => by omega
  | n + 1, m + 1, s, r, hnm, h => by
    rw [lpN] at h ⊢
    cases hb : body s with
    | none => simp [hb] at h
    | some z =>
      cases z with
      | inr r' => simpa [hb] using h
      | inl s' =>
        simp only [hb] at h ⊢
        exact lpN_mono (by omega) h
noncomputable def lp {σ ρ : Type} (body : σ → Option (σ ⊕ ρ)) (s : σ) : Option ρ :=
  @dite _ (∃ r n, lpN body n s = some r) (Classical.propDecidable _) (fun h => some (Classical.choose h)) (fun _ => none)
theorem lp_iff {σ ρ : Type} {body : σ → Option (σ ⊕ ρ)} {s : σ} {r : ρ} : lp body s = some r ↔ ∃ n, lpN body n s = some r := by
  unfold lp
  constructor
  · intro h
    by_cases hx : ∃ r n, lpN body n s = some r
    · rw [dif_pos hx] at h
      obtain ⟨n, hn⟩ := Classical.choose_spec hx
      exact ⟨n, by rw [hn]; exact h⟩
    · rw [dif_neg hx] at h
      cases h
  · rintro ⟨n, hn⟩
    have hx : ∃ r n, lpN body n s = some r := ⟨r, n, hn⟩
    rw [dif_pos hx]
    obtain ⟨m, hm⟩ := Classical.choose_spec hx
    have h1 := lpN_mono (Nat.le_max_left n m) hn
    have h2 := lpN_mono (Nat.le_max_right n m) hm
    rw [h1] at h2
    exact h2.symm
theorem lp_eq {σ ρ : Type} (body : σ → Option (σ ⊕ ρ)) (s : σ) : lp body s = match body s with
    | none => none
    | some (.inr r) => some r
    | some (.inl s') => lp body s' := by
  apply Option.ext
  intro r
  rw [lp_iff]
  constructor
  · rintro ⟨n, hn⟩
    cases n with
    | zero => simp [lpN] at hn
    | succ n =>
      rw [lpN] at hn
      cases hb : body s with
      | none => simp [hb] at hn
      | some z =>
        cases z with
        | inr r' => simpa [hb] using hn
        | inl s' => simp only [hb] at hn ⊢; exact lp_iff.mpr ⟨n, hn⟩
  · intro h
    cases hb : body s with
    | none => simp [hb] at h
    | some z =>
      cases z with
      | inr r' => exact ⟨1, by simp only [hb] at h; rw [lpN]; simp only [hb]; exact h⟩
      | inl s' =>
        simp only [hb] at h
        obtain ⟨n, hn⟩ := lp_iff.mp h
        exact ⟨n + 1, by rw [lpN]; simp only [hb]; exact hn⟩
/-- behind a loop's end -/
def xr {σ τ : Type} (f : Option τ) : Option (σ ⊕ τ) := f.map Sum.inr
def usr (x : Int64) (z : Int32) : Int64 := (x.toUInt64 >>> (z.toInt64.toUInt64 &&& Int64.toUInt64 63)).toInt64
def shl (x : Int64) (z : Int32) : Int64 := x <<< (z.toInt64 &&& 63)
