/-! THE SCRIPT: the law's own method that reads it. -/
/-- the script: how long, what it holds -/
abbrev SCR : Type := Nat × (Nat → Int32)
def SCX (X : BX) (b sa : Nat) (sc : SCR) : Prop := va_X sa sc.1 sc.2 (xs X) (xs X).heap ∧ sa < b ∧ sa < (xs X).heap.size ∧ sc.1 ≤ 260
def yLw (X : BX) : MethodName := ⟨"PulseRemoteLaw", (xM X).name, "([I)Z"⟩
def cellF (sc : SCR) (k : Int32) : Option Int32 := if nI sc.1 ≤ k then some ((7919 * (k + 3)) * (k + 11)) else if 0 ≤ k ∧ k.toNatClampNeg < sc.1 then some (sc.2 k.toNatClampNeg) else none
section Cell
variable {X : BX} {D : va_G} {cy : Nat → ClassId} {b : Nat} {y : MethodName} {cc : ByteArray} {nL : Nat} {ret : Option FieldType} {rm : Room} {r : Option Value} {μ μ' : MS} {kc ks pc : Nat} {lv : List (Nat × Value)} {st : List Value}
theorem r_sld (hB : BB X D cy b y cc nL ret rm) {sa L : Nat} {sv : Nat → Int32} (hX : va_X sa L sv (xs X) (xs X).heap) (hsa : sa < (xs X).heap.size) (hb : sa < b) {i : Int32} (hin : vp_in i L) (hd : decode cc pc = .ok (.iaload, 1)) (k : WW X D cy b r μ' nL kc ks (pc + 1) lv (.int (sv i.toNatClampNeg) :: st) μ) : WW X D cy b r μ' nL kc ks pc lv (.int i :: .ref sa :: st) μ :=
  fun H locs ls cells slots g1 g2 hW hS hl => va_sld hB.1 hB.2.1 hX hsa (A := fun q => b ≤ q) (by show ¬ b ≤ sa; omega) hS hin hd (k H locs ls cells slots g1 g2 hW hS hl)
theorem r_slen (hB : BB X D cy b y cc nL ret rm) {sa L : Nat} {sv : Nat → Int32} (hX : va_X sa L sv (xs X) (xs X).heap) (hsa : sa < (xs X).heap.size) (hb : sa < b) (hd : decode cc pc = .ok (.arraylength, 1)) (k : WW X D cy b r μ' nL kc ks (pc + 1) lv (.int (nI L) :: st) μ) : WW X D cy b r μ' nL kc ks pc lv (.ref sa :: st) μ :=
  fun H locs ls cells slots g1 g2 hW hS hl => va_slen hB.1 hB.2.1 hX hsa (A := fun q => b ≤ q) (by show ¬ b ≤ sa; omega) hS hd (k H locs ls cells slots g1 g2 hW hS hl)
end Cell
/-- start of a method that reads the script -/
def Px (D : va_G) (cy : Nat → ClassId) (b : Nat) (av : List Value) (μ : MS) (sa : Nat) (sc : SCR) : Array Value → State → Prop :=
  va_Pc av (fun U => Wd D cy b μ U.heap ∧ va_K D vwCl (tyA cy) U ∧ NW b U ∧ va_X sa sc.1 sc.2 U U.heap ∧ sa < b ∧ sa < U.heap.size ∧ sc.1 ≤ 260)
theorem Px.blind {D : va_G} {cy : Nat → ClassId} {b : Nat} {av : List Value} {μ : MS} {sa : Nat} {sc : SCR} : FrameBlind (Px D cy b av μ sa sc) := by
  intro a U g mk h
  obtain ⟨h1, h2, h3, h4, h5, h6⟩ := h
  exact ⟨h1, h2, va_K.moved (u := U) (U := U.calling g mk a) (Vm.Alike.refl U.vm) h3, NW.same (u := U) (U := U.calling g mk a) rfl rfl h4, va_X.moved (u := U) (U := U.calling g mk a) (Vm.Alike.refl U.vm) h5, h6⟩
theorem d_cell0 : decode cL_cell 0 = .ok (.iload_n 1, 1) := by decide +kernel
set_option maxHeartbeats 4000000 in
theorem m_cell (l : Launch) (D : va_G) (cy : Nat → ClassId) (b : Nat) {sa : Nat} {sc : SCR} {k v : Int32} {μ : MS} (hf : cellF sc k = some v) : Met l yL_cell (.code yL_cell cL_cell 2 (some .int) :: GW) rmL_cell (Px D cy b [.ref sa, .int k] μ sa sc) (Qw D cy b (some (.int v)) μ) rmL_cell.cells rmL_cell.slots (fun q => b ≤ q) := by
  refine Met.ofW (cc := cL_cell) (maxL := 2) (ret := some .int) (by decide) rfl ?_
  intro p e s m args below meth c s₁ B hml hv
  obtain ⟨rfl, hW, hK, hN, hX, hb, hsz, hL⟩ := hv
  have hts := atoms_spec (ws := .code yL_cell cL_cell 2 (some .int) :: GW) B.pre
  have hB : BB (p, l, e, rmL_cell, s, m, [Value.ref sa, Value.int k].toArray, below, meth, c) D cy b yL_cell cL_cell 2 (some .int) rmL_cell := ⟨B.exec, B.bytes, hml, findClass_of_methodNamed B.named, fun w hw => hts w (List.mem_cons_of_mem _ hw), B.notSynchronized, B.returns, hK, hN, by have h0 := hW.1; show b ≤ s.heap.size; omega, rfl, (name_of_methodNamed B.named B.method).1⟩
  have hl := lv_entry [Value.ref sa, Value.int k] (n := 2) (Nat.le_of_ble_eq_true rfl)
  rw [lg_entry_eq]
  have body : WW (p, l, e, rmL_cell, s, m, [Value.ref sa, Value.int k].toArray, below, meth, c) D cy b (some (.int v)) μ 2 0 0 0 [(0, .ref sa), (1, .int k)] [] μ := by
    refine r_iload_n hB 1 rfl d_cell0 rfl ?_
    refine r_aload_n hB 0 rfl (by decide +kernel : decode cL_cell 1 = .ok (.aload_n 0, 1)) rfl ?_
    refine r_slen hB hX hsz hb (by decide +kernel : decode cL_cell 2 = .ok (.arraylength, 1)) ?_
    have fin : ∀ w : Int32, w = v → WW (p, l, e, rmL_cell, s, m, [Value.ref sa, Value.int k].toArray, below, meth, c) D cy b (some (.int v)) μ 2 0 0 24 [(0, .ref sa), (1, .int k)] [.int w] μ := fun w hw => by
      subst hw
      exact r_iret hB (by decide +kernel : decode cL_cell 24 = .ok (.ireturn, 1))
    unfold cellF at hf
    refine r_icmp_ge hB (tgt := 12) (by decide +kernel : decode cL_cell 3 = .ok (.if_icmp .ge 9, 3)) (by decide) hf (fun _ hf => ?_) (fun _ hf => ?_)
    · refine r_sipush hB (v := 7919) (by decide +kernel : decode cL_cell 12 = .ok (.sipush 7919, 3)) (by decide +kernel) ?_
      refine r_iload_n hB 1 rfl (by decide +kernel : decode cL_cell 15 = .ok (.iload_n 1, 1)) rfl ?_
      refine r_iconst hB (v := 3) (by decide +kernel : decode cL_cell 16 = .ok (.iconst 3, 1)) (by decide +kernel) ?_
      refine r_iadd hB (by decide +kernel : decode cL_cell 17 = .ok (.iadd, 1)) ?_
      refine r_imul hB (by decide +kernel : decode cL_cell 18 = .ok (.imul, 1)) ?_
      refine r_iload_n hB 1 rfl (by decide +kernel : decode cL_cell 19 = .ok (.iload_n 1, 1)) rfl ?_
      refine r_bipush hB (v := 11) (by decide +kernel : decode cL_cell 20 = .ok (.bipush 11, 2)) (by decide +kernel) ?_
      refine r_iadd hB (by decide +kernel : decode cL_cell 22 = .ok (.iadd, 1)) ?_
      refine r_imul hB (by decide +kernel : decode cL_cell 23 = .ok (.imul, 1)) ?_
      exact fin _ (Option.some.inj hf)
    · obtain ⟨⟨k0, k1⟩, hf⟩ | ⟨_, hf⟩ := if_inv hf
      · refine r_aload_n hB 0 rfl (by decide +kernel : decode cL_cell 6 = .ok (.aload_n 0, 1)) rfl ?_
        refine r_iload_n hB 1 rfl (by decide +kernel : decode cL_cell 7 = .ok (.iload_n 1, 1)) rfl ?_
        refine r_sld hB hX hsz hb (iok_of k0 k1) (by decide +kernel : decode cL_cell 8 = .ok (.iaload, 1)) ?_
        refine r_goto hB (tgt := 24) (by decide +kernel : decode cL_cell 9 = .ok (.goto 15, 3)) (by decide) ?_
        exact fin _ (Option.some.inj hf)
      · cases hf
  exact body s.heap [] _ 0 0 (by show 0 + 0 ≤ rmL_cell.cells; exact Nat.zero_le _) (by show 0 + 0 ≤ rmL_cell.slots; exact Nat.zero_le _) hW va_S.rf hl
section CellCall
variable {X : BX} {D : va_G} {cy : Nat → ClassId} {b : Nat} {y : MethodName} {cc : ByteArray} {nL : Nat} {ret : Option FieldType} {r : Option Value} {μ μ' : MS} {kc ks pc : Nat} {lv : List (Nat × Value)}
theorem w_cellLink : Cond.methodLink "PulseRemoteLaw" 111 ⟨"PulseRemoteLaw", "cell", "([II)I"⟩ ∈ GW := gw_of (List.mem_of_getElem? (i := 698) (by decide +kernel)) rfl
/-- the call of it -/
theorem r_cell (hB : BB X D cy b y cc nL ret room_1) {sa : Nat} {sc : SCR} (hS : SCX X b sa sc) {α : Type} {K : Int32 → Option α} {R : α} {k : Int32} (rest : List Value) (hd : decode cc pc = .ok (.invokestatic 111, 3)) (ho : y.cls = "PulseRemoteLaw") (hrest : (rest.map fun v => v.category).sum ≤ 8) (hf : (cellF sc k).bind K = some R)
    (kk : ∀ z, K z = some R → WW X D cy b r μ' nL kc ks (pc + 3) lv (.int z :: rest) μ) : WW X D cy b r μ' nL kc ks pc lv (.int k :: .ref sa :: rest) μ := by
  obtain ⟨z, hz, hk⟩ := bind_inv hf
  have k9 := kk z hk
  intro H locs ls cells slots g1 g2 hW hSf hl
  have hts := hB.2.2.2.2.1
  have hR : xR X = room_1 := hB.2.2.2.2.2.2.2.2.2.2.1
  have S : CallFix (xp X) (xm X) (xc X) cc nL (xs X) (xa X) GW "PulseRemoteLaw" := ⟨hB.1, hB.2.1, hB.2.2.1, ho ▸ hB.2.2.2.1, hts⟩
  have hPS : PreS (xs X) H (Px D cy b [.ref sa, .int k] μ sa sc) [.ref sa, .int k] := ⟨Px.blind, fun U hU hw => by
    obtain ⟨q1, q2, q3, q4⟩ := pre_w (av := [.ref sa, .int k]) hB hW hSf U hU hw
    obtain ⟨x1, x2, x3, x4⟩ := hS
    refine ⟨q1, q2, q3, q4, (x1.moved hw.alike).kept ?_, x2, ?_, x4⟩
    · rw [hU]; exact hSf.2.1 sa x3 (by show ¬ b ≤ sa; omega)
    · rw [hU]; exact Nat.lt_of_lt_of_le x3 hSf.1⟩
  refine call_end hB (mc := 0) (ms := 0) (rv := some (.int z)) (a := ([.ref sa, .int k] : List Value).toArray) rfl k9 g1 g2 hSf hl ?_
  have hT : GoodIn GW (wsS "PulseRemoteLaw" 111 yL_cell (.code yL_cell cL_cell 2 (some .int) :: GW)) := gw_in (fun w hw => by
    simp only [wsS, List.mem_append, List.mem_cons, List.not_mem_nil, or_false] at hw
    rcases hw with (rfl | rfl | rfl) | rfl | h
    · exact w_cellLink
    · exact smL_cell
    · exact cmL_cell.2.1
    · exact cmL_cell.1
    · exact h)
  exact va_runS S (m_cell (xl X) D cy b hz) (cwS 2 hts hT rfl rfl rfl ⟨rfl, cmL_cell.2.2.1, cmL_cell.2.2.2.1, cmL_cell.2.2.2.2⟩ (by rw [hR]; exact (by decide))) hPS rfl rfl hl.1 rfl (by show 2 * 0 + _ ≤ 8; omega) hd ⟨by omega, by omega⟩
end CellCall
