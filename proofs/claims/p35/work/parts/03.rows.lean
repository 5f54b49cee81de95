/-! THE ROWS: from an instruction over the pure memory to the next -/
abbrev BX : Type := Program × Launch × Env × Room × State × MethodId × Array Value × List Frame × Method × Code
abbrev xp (X : BX) : Program := X.1
abbrev xl (X : BX) : Launch := X.2.1
abbrev xe (X : BX) : Env := X.2.2.1
abbrev xR (X : BX) : Room := X.2.2.2.1
abbrev xs (X : BX) : State := X.2.2.2.2.1
abbrev xm (X : BX) : MethodId := X.2.2.2.2.2.1
abbrev xa (X : BX) : Array Value := X.2.2.2.2.2.2.1
abbrev xw (X : BX) : List Frame := X.2.2.2.2.2.2.2.1
abbrev xM (X : BX) : Method := X.2.2.2.2.2.2.2.2.1
abbrev xc (X : BX) : Code := X.2.2.2.2.2.2.2.2.2
/-- a method's start and end -/
def Pw (D : va_G) (cy : Nat → ClassId) (b : Nat) (av : List Value) (μ : MS) : Array Value → State → Prop :=
  va_Pc av (fun U => Wd D cy b μ U.heap ∧ va_K D vwCl (tyA cy) U ∧ NW b U)
def Qw (D : va_G) (cy : Nat → ClassId) (b : Nat) (r : Option Value) (μ' : MS) : Array Value → State → Outcome → State → Prop :=
  fun _ st oc t => oc = .returned r ∧ Wd D cy b μ' t.heap ∧ va_F (fun q => b ≤ q) st t
theorem Pw.blind {D : va_G} {cy : Nat → ClassId} {b : Nat} {av : List Value} {μ : MS} : FrameBlind (Pw D cy b av μ) := by
  intro a U g mk h
  obtain ⟨h1, h2, h3, h4⟩ := h
  exact ⟨h1, h2, va_K.moved (u := U) (U := U.calling g mk a) (Vm.Alike.refl U.vm) h3, NW.same (u := U) (U := U.calling g mk a) rfl rfl h4⟩
/-- what stays throughout a method -/
def BB (X : BX) (D : va_G) (cy : Nat → ClassId) (b : Nat) (y : MethodName) (cc : ByteArray) (nL : Nat) (ret : Option FieldType) (rm : Room) : Prop :=
  (xp X).tables.exec = Jvm.exec ∧ (xc X).code = cc ∧ (xc X).maxLocals = nL ∧ (xs X).vm.findClass y.cls = some (xm X).cls ∧ (∀ w ∈ GW, w.before (xa X) (xs X) = true) ∧ (xM X).locks = false ∧ (xM X).sig.returnType = ret ∧
  va_K D vwCl (tyA cy) (xs X) ∧ NW b (xs X) ∧ b ≤ (xs X).heap.size ∧ xR X = rm ∧ (xM X).name = y.name
def WW (X : BX) (D : va_G) (cy : Nat → ClassId) (b : Nat) (r : Option Value) (μ' : MS) (nL kc ks pc : Nat) (lv : List (Nat × Value)) (st : List Value) (μ : MS) : Prop :=
  ∀ (H : Heap) (locs : List Loc) (ls : Array Slot) (cells slots : Nat), cells + kc ≤ (xR X).cells → slots + ks ≤ (xR X).slots → Wd D cy b μ H → va_S (fun q => b ≤ q) (xs X).heap H locs → lv_has ls nL lv →
    W (xp X) (xl X) (xe X) (xR X) (xs X) (xm X) (xa X) (xw X) (xM X) (xc X) H locs cells slots (MQ (xw X) (Qw D cy b r μ') (xa X) (xs X) (xR X).cells (xR X).slots (fun q => b ≤ q)) (F0 (xm X) pc ls st)
section Rows
variable {X : BX} {D : va_G} {cy : Nat → ClassId} {b : Nat} {y : MethodName} {cc : ByteArray} {nL : Nat} {ret : Option FieldType} {rm : Room} {r : Option Value} {μ μ' : MS} {kc ks pc : Nat} {lv : List (Nat × Value)} {st : List Value}
theorem met_of {l : Launch} {av : List Value} (hy : plainName y.cls = true) (hn : (lg_sl av).length ≤ nL)
    (body : ∀ X : BX, BB X D cy b y cc nL ret rm → xl X = l → WW X D cy b r μ' nL rm.cells rm.slots 0 (lv_args 0 av) [] μ) : Met l y (.code y cc nL ret :: GW) rm (Pw D cy b av μ) (Qw D cy b r μ') rm.cells rm.slots (fun q => b ≤ q) := by
  refine Met.ofW (cc := cc) (maxL := nL) (ret := ret) hy rfl ?_
  intro p e s m args below meth c s₁ B hml hv
  obtain ⟨rfl, hW, hK, hN⟩ := hv
  have hts := atoms_spec (ws := .code y cc nL ret :: GW) B.pre
  have hb := body (p, l, e, rm, s, m, av.toArray, below, meth, c) ⟨B.exec, B.bytes, hml, findClass_of_methodNamed B.named, fun w hw => hts w (List.mem_cons_of_mem _ hw), B.notSynchronized, B.returns, hK, hN, by have h0 := hW.1; show b ≤ s.heap.size; omega, rfl, (name_of_methodNamed B.named B.method).1⟩ rfl
  have hl := lv_entry av hn
  rw [lg_entry_eq]
  exact hb s.heap [] _ 0 0 (by show 0 + rm.cells ≤ rm.cells; omega) (by show 0 + rm.slots ≤ rm.slots; omega) hW va_S.rf hl
-- budgets
theorem WW.mono {kc' ks' : Nat} (h1 : kc ≤ kc') (h2 : ks ≤ ks') (k : WW X D cy b r μ' nL kc ks pc lv st μ) : WW X D cy b r μ' nL kc' ks' pc lv st μ :=
  fun H locs ls cells slots g1 g2 hW hS hl => k H locs ls cells slots (by omega) (by omega) hW hS hl
theorem WW.sub {lv' : List (Nat × Value)} (is : List Nat) (hs : lv_pick lv is = lv') (k : WW X D cy b r μ' nL kc ks pc lv' st μ) : WW X D cy b r μ' nL kc ks pc lv st μ :=
  fun H locs ls cells slots g1 g2 hW hS hl => k H locs ls cells slots g1 g2 hW hS (lv_sub hl is hs)
-- pure instructions
theorem r_iconst (hB : BB X D cy b y cc nL ret rm) {n : Int} {v : Int32} (hd : decode cc pc = .ok (.iconst n, 1)) (hv : Int32.ofInt n = v) (k : WW X D cy b r μ' nL kc ks (pc + 1) lv (.int v :: st) μ) : WW X D cy b r μ' nL kc ks pc lv st μ :=
  fun H locs ls cells slots g1 g2 hW hS hl => lv_iconst hB.1 hB.2.1 hd hv (k H locs ls cells slots g1 g2 hW hS hl)
theorem r_bipush (hB : BB X D cy b y cc nL ret rm) {n : Int} {v : Int32} (hd : decode cc pc = .ok (.bipush n, 2)) (hv : (Int8.ofInt n).toInt32 = v) (k : WW X D cy b r μ' nL kc ks (pc + 2) lv (.int v :: st) μ) : WW X D cy b r μ' nL kc ks pc lv st μ :=
  fun H locs ls cells slots g1 g2 hW hS hl => lv_bipush hB.1 hB.2.1 hd hv (k H locs ls cells slots g1 g2 hW hS hl)
theorem r_sipush (hB : BB X D cy b y cc nL ret rm) {n : Int} {v : Int32} (hd : decode cc pc = .ok (.sipush n, 3)) (hv : (Int16.ofInt n).toInt32 = v) (k : WW X D cy b r μ' nL kc ks (pc + 3) lv (.int v :: st) μ) : WW X D cy b r μ' nL kc ks pc lv st μ :=
  fun H locs ls cells slots g1 g2 hW hS hl => lv_sipush hB.1 hB.2.1 hd hv (k H locs ls cells slots g1 g2 hW hS hl)
theorem r_ldc (hB : BB X D cy b y cc nL ret rm) {i : Nat} {v : Int32} {own : String} (ho : y.cls = own) (hk : Cond.constant own i v ∈ GW) (hd : decode cc pc = .ok (.ldc i, 2)) (k : WW X D cy b r μ' nL kc ks (pc + 2) lv (.int v :: st) μ) : WW X D cy b r μ' nL kc ks pc lv st μ :=
  fun H locs ls cells slots g1 g2 hW hS hl => lv_ldc hB.1 hB.2.1 (by rw [← ho]; exact hB.2.2.2.1) (hB.2.2.2.2.1 _ hk) hd (k H locs ls cells slots g1 g2 hW hS hl)
theorem r_ldc2 (hB : BB X D cy b y cc nL ret rm) {i : Nat} {v : Int64} {own : String} (ho : y.cls = own) (hk : Cond.constantLong own i v ∈ GW) (hd : decode cc pc = .ok (.ldc2_w i, 3)) (k : WW X D cy b r μ' nL kc ks (pc + 3) lv (.long v :: st) μ) : WW X D cy b r μ' nL kc ks pc lv st μ :=
  fun H locs ls cells slots g1 g2 hW hS hl => lv_ldc2 hB.1 hB.2.1 (by rw [← ho]; exact hB.2.2.2.1) (hB.2.2.2.2.1 _ hk) hd (k H locs ls cells slots g1 g2 hW hS hl)
theorem r_lconst (hB : BB X D cy b y cc nL ret rm) {n : Fin 2} {v : Int64} (hd : decode cc pc = .ok (.lconst n, 1)) (hv : Int64.ofNat (n : Nat) = v) (k : WW X D cy b r μ' nL kc ks (pc + 1) lv (.long v :: st) μ) : WW X D cy b r μ' nL kc ks pc lv st μ :=
  fun H locs ls cells slots g1 g2 hW hS hl => lv_lconst hB.1 hB.2.1 hd hv (k H locs ls cells slots g1 g2 hW hS hl)
theorem r_iload_n (hB : BB X D cy b y cc nL ret rm) {n : Fin 4} {i : Nat} {x : Int32} (q : Nat) (hq : lv[q]? = some (i, .int x)) (hd : decode cc pc = .ok (.iload_n n, 1)) (hi : (n : Nat) = i) (k : WW X D cy b r μ' nL kc ks (pc + 1) lv (.int x :: st) μ) : WW X D cy b r μ' nL kc ks pc lv st μ :=
  fun H locs ls cells slots g1 g2 hW hS hl => lv_iload_n hB.1 hB.2.1 hd hi (lv_at hl q hq) (k H locs ls cells slots g1 g2 hW hS hl)
theorem r_iload (hB : BB X D cy b y cc nL ret rm) {i : Nat} {x : Int32} (q : Nat) (hq : lv[q]? = some (i, .int x)) (hd : decode cc pc = .ok (.iload i, 2)) (k : WW X D cy b r μ' nL kc ks (pc + 2) lv (.int x :: st) μ) : WW X D cy b r μ' nL kc ks pc lv st μ :=
  fun H locs ls cells slots g1 g2 hW hS hl => lv_iload hB.1 hB.2.1 hd (lv_at hl q hq) (k H locs ls cells slots g1 g2 hW hS hl)
theorem r_lload_n (hB : BB X D cy b y cc nL ret rm) {n : Fin 4} {i : Nat} {x : Int64} (q : Nat) (hq : lv[q]? = some (i, .long x)) (hd : decode cc pc = .ok (.lload_n n, 1)) (hi : (n : Nat) = i) (k : WW X D cy b r μ' nL kc ks (pc + 1) lv (.long x :: st) μ) : WW X D cy b r μ' nL kc ks pc lv st μ :=
  fun H locs ls cells slots g1 g2 hW hS hl => lv_lload_n hB.1 hB.2.1 hd hi (lv_at hl q hq) (k H locs ls cells slots g1 g2 hW hS hl)
theorem r_lload (hB : BB X D cy b y cc nL ret rm) {i : Nat} {x : Int64} (q : Nat) (hq : lv[q]? = some (i, .long x)) (hd : decode cc pc = .ok (.lload i, 2)) (k : WW X D cy b r μ' nL kc ks (pc + 2) lv (.long x :: st) μ) : WW X D cy b r μ' nL kc ks pc lv st μ :=
  fun H locs ls cells slots g1 g2 hW hS hl => lv_lload hB.1 hB.2.1 hd (lv_at hl q hq) (k H locs ls cells slots g1 g2 hW hS hl)
theorem r_aload_n (hB : BB X D cy b y cc nL ret rm) {n : Fin 4} {i a : Nat} (q : Nat) (hq : lv[q]? = some (i, .ref a)) (hd : decode cc pc = .ok (.aload_n n, 1)) (hi : (n : Nat) = i) (k : WW X D cy b r μ' nL kc ks (pc + 1) lv (.ref a :: st) μ) : WW X D cy b r μ' nL kc ks pc lv st μ :=
  fun H locs ls cells slots g1 g2 hW hS hl => lv_aload_n hB.1 hB.2.1 hd hi (lv_at hl q hq) (k H locs ls cells slots g1 g2 hW hS hl)
theorem r_aload (hB : BB X D cy b y cc nL ret rm) {i a : Nat} (q : Nat) (hq : lv[q]? = some (i, .ref a)) (hd : decode cc pc = .ok (.aload i, 2)) (k : WW X D cy b r μ' nL kc ks (pc + 2) lv (.ref a :: st) μ) : WW X D cy b r μ' nL kc ks pc lv st μ :=
  fun H locs ls cells slots g1 g2 hW hS hl => lv_aload hB.1 hB.2.1 hd (lv_at hl q hq) (k H locs ls cells slots g1 g2 hW hS hl)
abbrev l1 (lv : List (Nat × Value)) (i : Nat) : List (Nat × Value) := lv.filter (fun q => !(q.1 == i) && !(q.1 + 1 == i && q.2.category == 2))
abbrev l2 (lv : List (Nat × Value)) (i : Nat) : List (Nat × Value) := lv.filter (fun q => !(q.1 == i) && (!(q.1 == i + 1) && !(q.1 + 1 == i && q.2.category == 2)))
theorem r_istore_n (hB : BB X D cy b y cc nL ret rm) {n : Fin 4} {i : Nat} {x : Int32} {lv' : List (Nat × Value)} (hd : decode cc pc = .ok (.istore_n n, 1)) (hi : (n : Nat) = i) (hn : i < nL) (hl' : (i, Value.int x) :: l1 lv i = lv') (k : WW X D cy b r μ' nL kc ks (pc + 1) lv' st μ) : WW X D cy b r μ' nL kc ks pc lv (.int x :: st) μ :=
  fun H locs ls cells slots g1 g2 hW hS hl => lv_istore_n hB.1 hB.2.1 hd hi hl hn hl' (fun ls' h' => k H locs ls' cells slots g1 g2 hW hS h')
theorem r_istore (hB : BB X D cy b y cc nL ret rm) {i : Nat} {x : Int32} {lv' : List (Nat × Value)} (hd : decode cc pc = .ok (.istore i, 2)) (hn : i < nL) (hl' : (i, Value.int x) :: l1 lv i = lv') (k : WW X D cy b r μ' nL kc ks (pc + 2) lv' st μ) : WW X D cy b r μ' nL kc ks pc lv (.int x :: st) μ :=
  fun H locs ls cells slots g1 g2 hW hS hl => lv_istore hB.1 hB.2.1 hd hl hn hl' (fun ls' h' => k H locs ls' cells slots g1 g2 hW hS h')
theorem r_lstore_n (hB : BB X D cy b y cc nL ret rm) {n : Fin 4} {i : Nat} {x : Int64} {lv' : List (Nat × Value)} (hd : decode cc pc = .ok (.lstore_n n, 1)) (hi : (n : Nat) = i) (hn : i + 1 < nL) (hl' : (i, Value.long x) :: l2 lv i = lv') (k : WW X D cy b r μ' nL kc ks (pc + 1) lv' st μ) : WW X D cy b r μ' nL kc ks pc lv (.long x :: st) μ :=
  fun H locs ls cells slots g1 g2 hW hS hl => lv_lstore_n hB.1 hB.2.1 hd hi hl hn hl' (fun ls' h' => k H locs ls' cells slots g1 g2 hW hS h')
theorem r_lstore (hB : BB X D cy b y cc nL ret rm) {i : Nat} {x : Int64} {lv' : List (Nat × Value)} (hd : decode cc pc = .ok (.lstore i, 2)) (hn : i + 1 < nL) (hl' : (i, Value.long x) :: l2 lv i = lv') (k : WW X D cy b r μ' nL kc ks (pc + 2) lv' st μ) : WW X D cy b r μ' nL kc ks pc lv (.long x :: st) μ :=
  fun H locs ls cells slots g1 g2 hW hS hl => lv_lstore hB.1 hB.2.1 hd hl hn hl' (fun ls' h' => k H locs ls' cells slots g1 g2 hW hS h')
theorem r_astore_n (hB : BB X D cy b y cc nL ret rm) {n : Fin 4} {i a : Nat} {lv' : List (Nat × Value)} (hd : decode cc pc = .ok (.astore_n n, 1)) (hi : (n : Nat) = i) (hn : i < nL) (hl' : (i, Value.ref a) :: l1 lv i = lv') (k : WW X D cy b r μ' nL kc ks (pc + 1) lv' st μ) : WW X D cy b r μ' nL kc ks pc lv (.ref a :: st) μ :=
  fun H locs ls cells slots g1 g2 hW hS hl => lv_astore_n hB.1 hB.2.1 hd hi hl hn hl' (fun ls' h' => k H locs ls' cells slots g1 g2 hW hS h')
theorem r_astore (hB : BB X D cy b y cc nL ret rm) {i a : Nat} {lv' : List (Nat × Value)} (hd : decode cc pc = .ok (.astore i, 2)) (hn : i < nL) (hl' : (i, Value.ref a) :: l1 lv i = lv') (k : WW X D cy b r μ' nL kc ks (pc + 2) lv' st μ) : WW X D cy b r μ' nL kc ks pc lv (.ref a :: st) μ :=
  fun H locs ls cells slots g1 g2 hW hS hl => lv_astore hB.1 hB.2.1 hd hl hn hl' (fun ls' h' => k H locs ls' cells slots g1 g2 hW hS h')
theorem r_iinc (hB : BB X D cy b y cc nL ret rm) {i : Nat} {n : Int} {x v : Int32} {lv' : List (Nat × Value)} (q : Nat) (hq : lv[q]? = some (i, .int x)) (hd : decode cc pc = .ok (.iinc i n, 3)) (hv : x + Int32.ofInt n = v) (hn : i < nL) (hl' : (i, Value.int v) :: l1 lv i = lv') (k : WW X D cy b r μ' nL kc ks (pc + 3) lv' st μ) : WW X D cy b r μ' nL kc ks pc lv st μ :=
  fun H locs ls cells slots g1 g2 hW hS hl => lv_iinc hB.1 hB.2.1 hd hl hq hv hn hl' (fun ls' h' => k H locs ls' cells slots g1 g2 hW hS h')
theorem r_iadd (hB : BB X D cy b y cc nL ret rm) {x z : Int32} (hd : decode cc pc = .ok (.iadd, 1)) (k : WW X D cy b r μ' nL kc ks (pc + 1) lv (.int (x + z) :: st) μ) : WW X D cy b r μ' nL kc ks pc lv (.int z :: .int x :: st) μ :=
  fun H locs ls cells slots g1 g2 hW hS hl => lv_iadd hB.1 hB.2.1 hd (k H locs ls cells slots g1 g2 hW hS hl)
theorem r_isub (hB : BB X D cy b y cc nL ret rm) {x z : Int32} (hd : decode cc pc = .ok (.isub, 1)) (k : WW X D cy b r μ' nL kc ks (pc + 1) lv (.int (x - z) :: st) μ) : WW X D cy b r μ' nL kc ks pc lv (.int z :: .int x :: st) μ :=
  fun H locs ls cells slots g1 g2 hW hS hl => lv_isub hB.1 hB.2.1 hd (k H locs ls cells slots g1 g2 hW hS hl)
theorem r_imul (hB : BB X D cy b y cc nL ret rm) {x z : Int32} (hd : decode cc pc = .ok (.imul, 1)) (k : WW X D cy b r μ' nL kc ks (pc + 1) lv (.int (x * z) :: st) μ) : WW X D cy b r μ' nL kc ks pc lv (.int z :: .int x :: st) μ :=
  fun H locs ls cells slots g1 g2 hW hS hl => lv_imul hB.1 hB.2.1 hd (k H locs ls cells slots g1 g2 hW hS hl)
theorem r_iand (hB : BB X D cy b y cc nL ret rm) {x z : Int32} (hd : decode cc pc = .ok (.iand, 1)) (k : WW X D cy b r μ' nL kc ks (pc + 1) lv (.int (x &&& z) :: st) μ) : WW X D cy b r μ' nL kc ks pc lv (.int z :: .int x :: st) μ :=
  fun H locs ls cells slots g1 g2 hW hS hl => lv_iand hB.1 hB.2.1 hd (k H locs ls cells slots g1 g2 hW hS hl)
theorem r_ior (hB : BB X D cy b y cc nL ret rm) {x z : Int32} (hd : decode cc pc = .ok (.ior, 1)) (k : WW X D cy b r μ' nL kc ks (pc + 1) lv (.int (x ||| z) :: st) μ) : WW X D cy b r μ' nL kc ks pc lv (.int z :: .int x :: st) μ :=
  fun H locs ls cells slots g1 g2 hW hS hl => lv_ior hB.1 hB.2.1 hd (k H locs ls cells slots g1 g2 hW hS hl)
theorem r_ixor (hB : BB X D cy b y cc nL ret rm) {x z : Int32} (hd : decode cc pc = .ok (.ixor, 1)) (k : WW X D cy b r μ' nL kc ks (pc + 1) lv (.int (x ^^^ z) :: st) μ) : WW X D cy b r μ' nL kc ks pc lv (.int z :: .int x :: st) μ :=
  fun H locs ls cells slots g1 g2 hW hS hl => lv_ixor hB.1 hB.2.1 hd (k H locs ls cells slots g1 g2 hW hS hl)
theorem r_ishl (hB : BB X D cy b y cc nL ret rm) {x z : Int32} (hd : decode cc pc = .ok (.ishl, 1)) (k : WW X D cy b r μ' nL kc ks (pc + 1) lv (.int (x <<< (z &&& 31)) :: st) μ) : WW X D cy b r μ' nL kc ks pc lv (.int z :: .int x :: st) μ :=
  fun H locs ls cells slots g1 g2 hW hS hl => lv_ishl hB.1 hB.2.1 hd (k H locs ls cells slots g1 g2 hW hS hl)
theorem r_ishr (hB : BB X D cy b y cc nL ret rm) {x z : Int32} (hd : decode cc pc = .ok (.ishr, 1)) (k : WW X D cy b r μ' nL kc ks (pc + 1) lv (.int (x >>> (z &&& 31)) :: st) μ) : WW X D cy b r μ' nL kc ks pc lv (.int z :: .int x :: st) μ :=
  fun H locs ls cells slots g1 g2 hW hS hl => lv_ishr hB.1 hB.2.1 hd (k H locs ls cells slots g1 g2 hW hS hl)
theorem r_ineg (hB : BB X D cy b y cc nL ret rm) {x : Int32} (hd : decode cc pc = .ok (.ineg, 1)) (k : WW X D cy b r μ' nL kc ks (pc + 1) lv (.int (-x) :: st) μ) : WW X D cy b r μ' nL kc ks pc lv (.int x :: st) μ :=
  fun H locs ls cells slots g1 g2 hW hS hl => lv_ineg hB.1 hB.2.1 hd (k H locs ls cells slots g1 g2 hW hS hl)
theorem r_ladd (hB : BB X D cy b y cc nL ret rm) {x z : Int64} (hd : decode cc pc = .ok (.ladd, 1)) (k : WW X D cy b r μ' nL kc ks (pc + 1) lv (.long (x + z) :: st) μ) : WW X D cy b r μ' nL kc ks pc lv (.long z :: .long x :: st) μ :=
  fun H locs ls cells slots g1 g2 hW hS hl => lv_ladd hB.1 hB.2.1 hd (k H locs ls cells slots g1 g2 hW hS hl)
theorem r_lsub (hB : BB X D cy b y cc nL ret rm) {x z : Int64} (hd : decode cc pc = .ok (.lsub, 1)) (k : WW X D cy b r μ' nL kc ks (pc + 1) lv (.long (x - z) :: st) μ) : WW X D cy b r μ' nL kc ks pc lv (.long z :: .long x :: st) μ :=
  fun H locs ls cells slots g1 g2 hW hS hl => lv_lsub hB.1 hB.2.1 hd (k H locs ls cells slots g1 g2 hW hS hl)
theorem r_lmul (hB : BB X D cy b y cc nL ret rm) {x z : Int64} (hd : decode cc pc = .ok (.lmul, 1)) (k : WW X D cy b r μ' nL kc ks (pc + 1) lv (.long (x * z) :: st) μ) : WW X D cy b r μ' nL kc ks pc lv (.long z :: .long x :: st) μ :=
  fun H locs ls cells slots g1 g2 hW hS hl => lv_lmul hB.1 hB.2.1 hd (k H locs ls cells slots g1 g2 hW hS hl)
theorem r_land (hB : BB X D cy b y cc nL ret rm) {x z : Int64} (hd : decode cc pc = .ok (.land, 1)) (k : WW X D cy b r μ' nL kc ks (pc + 1) lv (.long (x &&& z) :: st) μ) : WW X D cy b r μ' nL kc ks pc lv (.long z :: .long x :: st) μ :=
  fun H locs ls cells slots g1 g2 hW hS hl => lv_land hB.1 hB.2.1 hd (k H locs ls cells slots g1 g2 hW hS hl)
theorem r_lor (hB : BB X D cy b y cc nL ret rm) {x z : Int64} (hd : decode cc pc = .ok (.lor, 1)) (k : WW X D cy b r μ' nL kc ks (pc + 1) lv (.long (x ||| z) :: st) μ) : WW X D cy b r μ' nL kc ks pc lv (.long z :: .long x :: st) μ :=
  fun H locs ls cells slots g1 g2 hW hS hl => lv_lor hB.1 hB.2.1 hd (k H locs ls cells slots g1 g2 hW hS hl)
theorem r_i2l (hB : BB X D cy b y cc nL ret rm) {x : Int32} (hd : decode cc pc = .ok (.i2l, 1)) (k : WW X D cy b r μ' nL kc ks (pc + 1) lv (.long x.toInt64 :: st) μ) : WW X D cy b r μ' nL kc ks pc lv (.int x :: st) μ :=
  fun H locs ls cells slots g1 g2 hW hS hl => lv_i2l hB.1 hB.2.1 hd rfl (k H locs ls cells slots g1 g2 hW hS hl)
theorem r_l2i (hB : BB X D cy b y cc nL ret rm) {x : Int64} (hd : decode cc pc = .ok (.l2i, 1)) (k : WW X D cy b r μ' nL kc ks (pc + 1) lv (.int x.toInt32 :: st) μ) : WW X D cy b r μ' nL kc ks pc lv (.long x :: st) μ :=
  fun H locs ls cells slots g1 g2 hW hS hl => lv_l2i hB.1 hB.2.1 hd rfl (k H locs ls cells slots g1 g2 hW hS hl)
theorem r_i2b (hB : BB X D cy b y cc nL ret rm) {x : Int32} (hd : decode cc pc = .ok (.i2b, 1)) (k : WW X D cy b r μ' nL kc ks (pc + 1) lv (.int x.toInt8.toInt32 :: st) μ) : WW X D cy b r μ' nL kc ks pc lv (.int x :: st) μ :=
  fun H locs ls cells slots g1 g2 hW hS hl => lv_i2b hB.1 hB.2.1 hd rfl (k H locs ls cells slots g1 g2 hW hS hl)
theorem r_i2c (hB : BB X D cy b y cc nL ret rm) {x : Int32} (hd : decode cc pc = .ok (.i2c, 1)) (k : WW X D cy b r μ' nL kc ks (pc + 1) lv (.int x.toUInt32.toUInt16.toUInt32.toInt32 :: st) μ) : WW X D cy b r μ' nL kc ks pc lv (.int x :: st) μ :=
  fun H locs ls cells slots g1 g2 hW hS hl => lv_i2c hB.1 hB.2.1 hd rfl (k H locs ls cells slots g1 g2 hW hS hl)
theorem r_lushr (hB : BB X D cy b y cc nL ret rm) {x : Int64} {z : Int32} (hd : decode cc pc = .ok (.lushr, 1)) (k : WW X D cy b r μ' nL kc ks (pc + 1) lv (.long (usr x z) :: st) μ) : WW X D cy b r μ' nL kc ks pc lv (.int z :: .long x :: st) μ :=
  fun H locs ls cells slots g1 g2 hW hS hl => lv_lushr hB.1 hB.2.1 hd rfl (k H locs ls cells slots g1 g2 hW hS hl)
theorem r_lshl (hB : BB X D cy b y cc nL ret rm) {x : Int64} {z : Int32} (hd : decode cc pc = .ok (.lshl, 1)) (k : WW X D cy b r μ' nL kc ks (pc + 1) lv (.long (shl x z) :: st) μ) : WW X D cy b r μ' nL kc ks pc lv (.int z :: .long x :: st) μ :=
  fun H locs ls cells slots g1 g2 hW hS hl => lv_lshl hB.1 hB.2.1 hd rfl (k H locs ls cells slots g1 g2 hW hS hl)
theorem r_lcmp (hB : BB X D cy b y cc nL ret rm) {x z : Int64} (hd : decode cc pc = .ok (.lcmp, 1)) (k : WW X D cy b r μ' nL kc ks (pc + 1) lv (.int (lg_cmp x z) :: st) μ) : WW X D cy b r μ' nL kc ks pc lv (.long z :: .long x :: st) μ :=
  fun H locs ls cells slots g1 g2 hW hS hl => W.lcmp hB.1 hB.2.1 hd (k H locs ls cells slots g1 g2 hW hS hl)
theorem r_dup (hB : BB X D cy b y cc nL ret rm) {v : Value} (hd : decode cc pc = .ok (.dup, 1)) (hc : v.category = 1) (k : WW X D cy b r μ' nL kc ks (pc + 1) lv (v :: v :: st) μ) : WW X D cy b r μ' nL kc ks pc lv (v :: st) μ :=
  fun H locs ls cells slots g1 g2 hW hS hl => lv_dup hB.1 hB.2.1 hd hc (k H locs ls cells slots g1 g2 hW hS hl)
theorem r_dup2 (hB : BB X D cy b y cc nL ret rm) {v w : Value} (hd : decode cc pc = .ok (.dup2, 1)) (hc : v.category = 1) (hc2 : w.category = 1) (k : WW X D cy b r μ' nL kc ks (pc + 1) lv (v :: w :: v :: w :: st) μ) : WW X D cy b r μ' nL kc ks pc lv (v :: w :: st) μ :=
  fun H locs ls cells slots g1 g2 hW hS hl => lv_dup2_11 hB.1 hB.2.1 hd hc hc2 (k H locs ls cells slots g1 g2 hW hS hl)
theorem r_pop (hB : BB X D cy b y cc nL ret rm) {v : Value} (hd : decode cc pc = .ok (.pop, 1)) (hc : v.category = 1) (k : WW X D cy b r μ' nL kc ks (pc + 1) lv st μ) : WW X D cy b r μ' nL kc ks pc lv (v :: st) μ :=
  fun H locs ls cells slots g1 g2 hW hS hl => lv_pop hB.1 hB.2.1 hd hc (k H locs ls cells slots g1 g2 hW hS hl)
theorem r_goto (hB : BB X D cy b y cc nL ret rm) {off : Int} {tgt : Nat} (hd : decode cc pc = .ok (.goto off, 3)) (ht : (pc : Int) + off = (tgt : Int)) (k : WW X D cy b r μ' nL kc ks tgt lv st μ) : WW X D cy b r μ' nL kc ks pc lv st μ :=
  fun H locs ls cells slots g1 g2 hW hS hl => lv_goto hB.1 hB.2.1 hd ht (k H locs ls cells slots g1 g2 hW hS hl)
theorem r_idiv (hB : BB X D cy b y cc nL ret rm) {α : Type} {x z : Int32} {K : Int32 → Option α} {R : α} (hd : decode cc pc = .ok (.idiv, 1)) (hf : (dvI x z).bind K = some R) (k : ∀ v : Int32, K v = some R → WW X D cy b r μ' nL kc ks (pc + 1) lv (.int v :: st) μ) : WW X D cy b r μ' nL kc ks pc lv (.int z :: .int x :: st) μ := by
  by_cases hz : z = 0
  · simp [dvI, hz] at hf
  · simp only [dvI, if_neg hz, Option.bind_some] at hf
    exact fun H locs ls cells slots g1 g2 hW hS hl => lv_idiv hB.1 hB.2.1 hd hz (k _ hf H locs ls cells slots g1 g2 hW hS hl)
theorem r_irem (hB : BB X D cy b y cc nL ret rm) {α : Type} {x z : Int32} {K : Int32 → Option α} {R : α} (hd : decode cc pc = .ok (.irem, 1)) (hf : (rmI x z).bind K = some R) (k : ∀ v : Int32, K v = some R → WW X D cy b r μ' nL kc ks (pc + 1) lv (.int v :: st) μ) : WW X D cy b r μ' nL kc ks pc lv (.int z :: .int x :: st) μ := by
  by_cases hz : z = 0
  · simp [rmI, hz] at hf
  · simp only [rmI, if_neg hz, Option.bind_some] at hf
    exact fun H locs ls cells slots g1 g2 hW hS hl => lv_irem hB.1 hB.2.1 hd hz (k _ hf H locs ls cells slots g1 g2 hW hS hl)
theorem r_ldiv (hB : BB X D cy b y cc nL ret rm) {α : Type} {x z : Int64} {K : Int64 → Option α} {R : α} (hd : decode cc pc = .ok (.ldiv, 1)) (hf : (dvL x z).bind K = some R) (k : ∀ v : Int64, K v = some R → WW X D cy b r μ' nL kc ks (pc + 1) lv (.long v :: st) μ) : WW X D cy b r μ' nL kc ks pc lv (.long z :: .long x :: st) μ := by
  by_cases hz : z = 0
  · simp [dvL, hz] at hf
  · simp only [dvL, if_neg hz, Option.bind_some] at hf
    exact fun H locs ls cells slots g1 g2 hW hS hl => lv_ldiv hB.1 hB.2.1 hd hz (k _ hf H locs ls cells slots g1 g2 hW hS hl)
theorem r_icmp_eq (hB : BB X D cy b y cc nL ret rm) {α : Type} {x z : Int32} {off : Int} {tgt : Nat} {A B : Option α} {R : α} (hd : decode cc pc = .ok (.if_icmp .eq off, 3)) (ht : (pc : Int) + off = (tgt : Int)) (hf : (if x = z then A else B) = some R) (kt : x = z → A = some R → WW X D cy b r μ' nL kc ks tgt lv st μ) (kf : ¬ x = z → B = some R → WW X D cy b r μ' nL kc ks (pc + 3) lv st μ) : WW X D cy b r μ' nL kc ks pc lv (.int z :: .int x :: st) μ :=
  fun H locs ls cells slots g1 g2 hW hS hl => lv_icmp_eq hB.1 hB.2.1 hd ht (fun h => kt h (by rw [if_pos h] at hf; exact hf) H locs ls cells slots g1 g2 hW hS hl) (fun h => kf h (by rw [if_neg h] at hf; exact hf) H locs ls cells slots g1 g2 hW hS hl)
theorem r_if_eq (hB : BB X D cy b y cc nL ret rm) {α : Type} {x : Int32} {off : Int} {tgt : Nat} {A B : Option α} {R : α} (hd : decode cc pc = .ok (.ifCond .eq off, 3)) (ht : (pc : Int) + off = (tgt : Int)) (hf : (if x = 0 then A else B) = some R) (kt : x = 0 → A = some R → WW X D cy b r μ' nL kc ks tgt lv st μ) (kf : ¬ x = 0 → B = some R → WW X D cy b r μ' nL kc ks (pc + 3) lv st μ) : WW X D cy b r μ' nL kc ks pc lv (.int x :: st) μ :=
  fun H locs ls cells slots g1 g2 hW hS hl => lv_if_eq hB.1 hB.2.1 hd ht (fun h => kt h (by rw [if_pos h] at hf; exact hf) H locs ls cells slots g1 g2 hW hS hl) (fun h => kf h (by rw [if_neg h] at hf; exact hf) H locs ls cells slots g1 g2 hW hS hl)
theorem r_icmp_ne (hB : BB X D cy b y cc nL ret rm) {α : Type} {x z : Int32} {off : Int} {tgt : Nat} {A B : Option α} {R : α} (hd : decode cc pc = .ok (.if_icmp .ne off, 3)) (ht : (pc : Int) + off = (tgt : Int)) (hf : (if x = z then A else B) = some R) (kt : x = z → A = some R → WW X D cy b r μ' nL kc ks (pc + 3) lv st μ) (kf : ¬ x = z → B = some R → WW X D cy b r μ' nL kc ks tgt lv st μ) : WW X D cy b r μ' nL kc ks pc lv (.int z :: .int x :: st) μ :=
  fun H locs ls cells slots g1 g2 hW hS hl => lv_icmp_ne hB.1 hB.2.1 hd ht (fun h => kf h (by rw [if_neg h] at hf; exact hf) H locs ls cells slots g1 g2 hW hS hl) (fun h => kt h (by rw [if_pos h] at hf; exact hf) H locs ls cells slots g1 g2 hW hS hl)
theorem r_if_ne (hB : BB X D cy b y cc nL ret rm) {α : Type} {x : Int32} {off : Int} {tgt : Nat} {A B : Option α} {R : α} (hd : decode cc pc = .ok (.ifCond .ne off, 3)) (ht : (pc : Int) + off = (tgt : Int)) (hf : (if x = 0 then A else B) = some R) (kt : x = 0 → A = some R → WW X D cy b r μ' nL kc ks (pc + 3) lv st μ) (kf : ¬ x = 0 → B = some R → WW X D cy b r μ' nL kc ks tgt lv st μ) : WW X D cy b r μ' nL kc ks pc lv (.int x :: st) μ :=
  fun H locs ls cells slots g1 g2 hW hS hl => lv_if_ne hB.1 hB.2.1 hd ht (fun h => kf h (by rw [if_neg h] at hf; exact hf) H locs ls cells slots g1 g2 hW hS hl) (fun h => kt h (by rw [if_pos h] at hf; exact hf) H locs ls cells slots g1 g2 hW hS hl)
theorem r_icmp_lt (hB : BB X D cy b y cc nL ret rm) {α : Type} {x z : Int32} {off : Int} {tgt : Nat} {A B : Option α} {R : α} (hd : decode cc pc = .ok (.if_icmp .lt off, 3)) (ht : (pc : Int) + off = (tgt : Int)) (hf : (if x < z then A else B) = some R) (kt : x < z → A = some R → WW X D cy b r μ' nL kc ks tgt lv st μ) (kf : ¬ x < z → B = some R → WW X D cy b r μ' nL kc ks (pc + 3) lv st μ) : WW X D cy b r μ' nL kc ks pc lv (.int z :: .int x :: st) μ :=
  fun H locs ls cells slots g1 g2 hW hS hl => lv_icmp_lt hB.1 hB.2.1 hd ht (fun h => kt h (by rw [if_pos h] at hf; exact hf) H locs ls cells slots g1 g2 hW hS hl) (fun h => kf h (by rw [if_neg h] at hf; exact hf) H locs ls cells slots g1 g2 hW hS hl)
theorem r_if_lt (hB : BB X D cy b y cc nL ret rm) {α : Type} {x : Int32} {off : Int} {tgt : Nat} {A B : Option α} {R : α} (hd : decode cc pc = .ok (.ifCond .lt off, 3)) (ht : (pc : Int) + off = (tgt : Int)) (hf : (if x < 0 then A else B) = some R) (kt : x < 0 → A = some R → WW X D cy b r μ' nL kc ks tgt lv st μ) (kf : ¬ x < 0 → B = some R → WW X D cy b r μ' nL kc ks (pc + 3) lv st μ) : WW X D cy b r μ' nL kc ks pc lv (.int x :: st) μ :=
  fun H locs ls cells slots g1 g2 hW hS hl => lv_if_lt hB.1 hB.2.1 hd ht (fun h => kt h (by rw [if_pos h] at hf; exact hf) H locs ls cells slots g1 g2 hW hS hl) (fun h => kf h (by rw [if_neg h] at hf; exact hf) H locs ls cells slots g1 g2 hW hS hl)
theorem r_icmp_ge (hB : BB X D cy b y cc nL ret rm) {α : Type} {x z : Int32} {off : Int} {tgt : Nat} {A B : Option α} {R : α} (hd : decode cc pc = .ok (.if_icmp .ge off, 3)) (ht : (pc : Int) + off = (tgt : Int)) (hf : (if z ≤ x then A else B) = some R) (kt : z ≤ x → A = some R → WW X D cy b r μ' nL kc ks tgt lv st μ) (kf : ¬ z ≤ x → B = some R → WW X D cy b r μ' nL kc ks (pc + 3) lv st μ) : WW X D cy b r μ' nL kc ks pc lv (.int z :: .int x :: st) μ :=
  fun H locs ls cells slots g1 g2 hW hS hl => lv_icmp_ge hB.1 hB.2.1 hd ht (fun h => kt h (by rw [if_pos h] at hf; exact hf) H locs ls cells slots g1 g2 hW hS hl) (fun h => kf h (by rw [if_neg h] at hf; exact hf) H locs ls cells slots g1 g2 hW hS hl)
theorem r_if_ge (hB : BB X D cy b y cc nL ret rm) {α : Type} {x : Int32} {off : Int} {tgt : Nat} {A B : Option α} {R : α} (hd : decode cc pc = .ok (.ifCond .ge off, 3)) (ht : (pc : Int) + off = (tgt : Int)) (hf : (if 0 ≤ x then A else B) = some R) (kt : 0 ≤ x → A = some R → WW X D cy b r μ' nL kc ks tgt lv st μ) (kf : ¬ 0 ≤ x → B = some R → WW X D cy b r μ' nL kc ks (pc + 3) lv st μ) : WW X D cy b r μ' nL kc ks pc lv (.int x :: st) μ :=
  fun H locs ls cells slots g1 g2 hW hS hl => lv_if_ge hB.1 hB.2.1 hd ht (fun h => kt h (by rw [if_pos h] at hf; exact hf) H locs ls cells slots g1 g2 hW hS hl) (fun h => kf h (by rw [if_neg h] at hf; exact hf) H locs ls cells slots g1 g2 hW hS hl)
theorem r_icmp_gt (hB : BB X D cy b y cc nL ret rm) {α : Type} {x z : Int32} {off : Int} {tgt : Nat} {A B : Option α} {R : α} (hd : decode cc pc = .ok (.if_icmp .gt off, 3)) (ht : (pc : Int) + off = (tgt : Int)) (hf : (if z < x then A else B) = some R) (kt : z < x → A = some R → WW X D cy b r μ' nL kc ks tgt lv st μ) (kf : ¬ z < x → B = some R → WW X D cy b r μ' nL kc ks (pc + 3) lv st μ) : WW X D cy b r μ' nL kc ks pc lv (.int z :: .int x :: st) μ :=
  fun H locs ls cells slots g1 g2 hW hS hl => lv_icmp_gt hB.1 hB.2.1 hd ht (fun h => kt h (by rw [if_pos h] at hf; exact hf) H locs ls cells slots g1 g2 hW hS hl) (fun h => kf h (by rw [if_neg h] at hf; exact hf) H locs ls cells slots g1 g2 hW hS hl)
theorem r_if_gt (hB : BB X D cy b y cc nL ret rm) {α : Type} {x : Int32} {off : Int} {tgt : Nat} {A B : Option α} {R : α} (hd : decode cc pc = .ok (.ifCond .gt off, 3)) (ht : (pc : Int) + off = (tgt : Int)) (hf : (if 0 < x then A else B) = some R) (kt : 0 < x → A = some R → WW X D cy b r μ' nL kc ks tgt lv st μ) (kf : ¬ 0 < x → B = some R → WW X D cy b r μ' nL kc ks (pc + 3) lv st μ) : WW X D cy b r μ' nL kc ks pc lv (.int x :: st) μ :=
  fun H locs ls cells slots g1 g2 hW hS hl => lv_if_gt hB.1 hB.2.1 hd ht (fun h => kt h (by rw [if_pos h] at hf; exact hf) H locs ls cells slots g1 g2 hW hS hl) (fun h => kf h (by rw [if_neg h] at hf; exact hf) H locs ls cells slots g1 g2 hW hS hl)
theorem r_icmp_le (hB : BB X D cy b y cc nL ret rm) {α : Type} {x z : Int32} {off : Int} {tgt : Nat} {A B : Option α} {R : α} (hd : decode cc pc = .ok (.if_icmp .le off, 3)) (ht : (pc : Int) + off = (tgt : Int)) (hf : (if x ≤ z then A else B) = some R) (kt : x ≤ z → A = some R → WW X D cy b r μ' nL kc ks tgt lv st μ) (kf : ¬ x ≤ z → B = some R → WW X D cy b r μ' nL kc ks (pc + 3) lv st μ) : WW X D cy b r μ' nL kc ks pc lv (.int z :: .int x :: st) μ :=
  fun H locs ls cells slots g1 g2 hW hS hl => lv_icmp_le hB.1 hB.2.1 hd ht (fun h => kt h (by rw [if_pos h] at hf; exact hf) H locs ls cells slots g1 g2 hW hS hl) (fun h => kf h (by rw [if_neg h] at hf; exact hf) H locs ls cells slots g1 g2 hW hS hl)
theorem r_if_le (hB : BB X D cy b y cc nL ret rm) {α : Type} {x : Int32} {off : Int} {tgt : Nat} {A B : Option α} {R : α} (hd : decode cc pc = .ok (.ifCond .le off, 3)) (ht : (pc : Int) + off = (tgt : Int)) (hf : (if x ≤ 0 then A else B) = some R) (kt : x ≤ 0 → A = some R → WW X D cy b r μ' nL kc ks tgt lv st μ) (kf : ¬ x ≤ 0 → B = some R → WW X D cy b r μ' nL kc ks (pc + 3) lv st μ) : WW X D cy b r μ' nL kc ks pc lv (.int x :: st) μ :=
  fun H locs ls cells slots g1 g2 hW hS hl => lv_if_le hB.1 hB.2.1 hd ht (fun h => kt h (by rw [if_pos h] at hf; exact hf) H locs ls cells slots g1 g2 hW hS hl) (fun h => kf h (by rw [if_neg h] at hf; exact hf) H locs ls cells slots g1 g2 hW hS hl)
theorem r_name {α : Type} {x : Int32} {K : Int32 → Option α} {R : α} (hf : (some x).bind K = some R) (k : ∀ v : Int32, K v = some R → WW X D cy b r μ' nL kc ks pc lv (.int v :: st) μ) : WW X D cy b r μ' nL kc ks pc lv (.int x :: st) μ := k x hf
theorem r_nameL {α : Type} {x : Int64} {K : Int64 → Option α} {R : α} (hf : (some x).bind K = some R) (k : ∀ v : Int64, K v = some R → WW X D cy b r μ' nL kc ks pc lv (.long v :: st) μ) : WW X D cy b r μ' nL kc ks pc lv (.long x :: st) μ := k x hf
end Rows
