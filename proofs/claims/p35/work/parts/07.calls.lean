/-! ROWS: calls of the system's own methods, copies, loops' rules -/
/-- what the tables say of a method of the system: its code, how many parameters -/
def CM (y : MethodName) (cc : ByteArray) (nL : Nat) (ret : Option FieldType) (n : Nat) : Prop :=
  Cond.code y cc nL ret ∈ GW ∧ Cond.initialized y.cls ∈ GW ∧ (y.cls ≠ "java/lang/invoke/MethodHandle" ∧ y.cls ≠ "java/lang/invoke/VarHandle" ∧ (parseMethodDescriptor y.desc).map (fun d => d.parameters.length) = some n)
def MLk (own : String) (idx : Nat) (y : MethodName) : Prop := (Cond.methodLink own idx y ∈ GW) ∨ ∃ host, Cond.methodLinkNest own idx y host ∈ lw_tbl
def IM (y : MethodName) : Prop := Cond.instanceMethod y ∈ GW ∧ Cond.selects y.cls y y ∈ GW
section Calls2
variable {X : BX} {D : va_G} {cy : Nat → ClassId} {b : Nat} {y : MethodName} {cc : ByteArray} {nL : Nat} {ret : Option FieldType} {rm : Room} {r : Option Value} {μ μ' : MS} {kc ks pc : Nat} {lv : List (Nat × Value)} {st : List Value}
theorem call_end (hB : BB X D cy b y cc nL ret rm) {mc ms : Nat} {st0 rest : List Value} {rv : Option Value} {μ1 : MS} {a : Array Value} {st1 : List Value} (hst : st1 = rv.toList ++ rest)
    (k : WW X D cy b r μ' nL kc ks (pc + 3) lv st1 μ1) {H : Heap} {locs : List Loc} {ls : Array Slot} {cells slots : Nat} (g1 : cells + (kc + mc) ≤ (xR X).cells) (g2 : slots + (ks + ms) ≤ (xR X).slots) (hS : va_S (fun q => b ≤ q) (xs X).heap H locs) (hl : lv_has ls nL lv)
    (hr : va_Run (xp X) (xl X) (xe X) (xR X) (xs X) (xm X) (xa X) (xw X) (xM X) (xc X) H locs cells slots mc ms (F0 (xm X) pc ls st0) rest (Qw D cy b rv μ1 a) (fun q => b ≤ q)) :
    W (xp X) (xl X) (xe X) (xR X) (xs X) (xm X) (xa X) (xw X) (xM X) (xc X) H locs cells slots (MQ (xw X) (Qw D cy b r μ') (xa X) (xs X) (xR X).cells (xR X).slots (fun q => b ≤ q)) (F0 (xm X) pc ls st0) := by
  subst hst
  intro T hT X0
  obtain ⟨v, st₀, t, T', L, h0, X', hL, e1, e2, ⟨hv, hWd, hz, hk⟩, stp⟩ := hr T hT X0
  cases hv
  rw [h0] at hz hk
  have hw := k T'.heap (locs ++ L) ls (cells + mc) (slots + ms) (by omega) (by omega) (by rw [e1]; exact hWd)
    ⟨Nat.le_trans hS.1 (by rw [e1]; exact hz), fun q h1 h2 => by rw [e1, hk q (Nat.lt_of_lt_of_le h1 hS.1) h2]; exact hS.2.1 q h1 h2, fun q hq => by
      rcases List.mem_append.mp hq with h | h
      · exact hS.2.2 q h
      · exact hL q h⟩ hl
  obtain ⟨t2, a1, b1⟩ := hw T' rfl X'
  exact ⟨t2, stp t2 a1, b1⟩
theorem pre_w (hB : BB X D cy b y cc nL ret rm) {av : List Value} {H : Heap} {locs : List Loc} (hW : Wd D cy b μ H) (hS : va_S (fun q => b ≤ q) (xs X).heap H locs) : ∀ U : State, U.heap = H → (xs X).WarmedH U.vm → Pw D cy b av μ av.toArray U :=
  fun U hU hw => ⟨rfl, by rw [hU]; exact hW, va_K.moved hw.alike hB.2.2.2.2.2.2.2.1, NW.warm hw (fun a h1 h2 => by rw [hU]; exact hS.2.1 a h1 h2) hB.2.2.2.2.2.2.2.2.1⟩
theorem callV0 (hB : BB X D cy b y cc nL ret rm) {y' : MethodName} {cc' : ByteArray} {nL' n : Nat} {ret' : Option FieldType} {rm' : Room} {ci idx : Nat} {own : String} {T : u_T} {N : Nat} {ty : Nat → FieldType} {a : Nat} {As rest : List Value} {rv : Option Value} {μ1 : MS} {st0 st1 : List Value}
    (cf : CF ci y'.cls T N ty) (ho : y.cls = own) (cm : CM y' cc' nL' ret' n) (im : IM y') (lk : MLk own idx y') (hroom : rm'.frames + 1 ≤ rm.frames ∧ 8 + (nL' + 11) + rm'.locals ≤ rm.locals) (hn : As.length = n) (hrest : (rest.map fun v => v.category).sum ≤ 8)
    (hd : decode cc pc = .ok (.invokevirtual idx, 3)) (hM : Met (xl X) y' (.code y' cc' nL' ret' :: GW) rm' (Pw D cy b (.ref (b + a) :: As) μ) (Qw D cy b rv μ1) rm'.cells rm'.slots (fun q => b ≤ q)) (ha : μ.1[a]? = some (ci, 0)) (hst0 : st0 = As.reverse ++ .ref (b + a) :: rest) (hst1 : st1 = rv.toList ++ rest)
    (k : WW X D cy b r μ' nL kc ks (pc + 3) lv st1 μ1) : WW X D cy b r μ' nL (kc + rm'.cells) (ks + rm'.slots) pc lv st0 μ := by
  subst ho
  subst hst0
  intro H locs ls cells slots g1 g2 hW hS hl
  have hts := hB.2.2.2.2.1
  have hK := hB.2.2.2.2.2.2.2.1
  have hR : xR X = rm := hB.2.2.2.2.2.2.2.2.2.2.1
  have hat := hW.2 a _ ha
  rw [me_obj cf.2.1] at hat
  have hrecv := va_recv hK (va_P1 hat) cf.1 (q0 := 0) rfl
  have hG : GoodIn GW (.code y' cc' nL' ret' :: GW) := gw_in (fun w hw => by rcases List.mem_cons.mp hw with rfl | h; exact cm.1; exact h)
  have S : CallFix (xp X) (xm X) (xc X) cc nL (xs X) (xa X) GW y.cls := ⟨hB.1, hB.2.1, hB.2.2.1, hB.2.2.2.1, hts⟩
  have hPV : PreV (xs X) H y'.cls (b + a) (Pw D cy b (.ref (b + a) :: As) μ) As := ⟨Pw.blind, hrecv, pre_w hB hW hS⟩
  refine call_end hB (a := (.ref (b + a) :: As : List Value).toArray) hst1 k g1 g2 hS hl ?_
  rcases lk with lk | ⟨host, lk⟩
  · have hT : GoodIn GW (wsV y.cls idx y'.cls y' (.code y' cc' nL' ret' :: GW)) := gw_in (fun w hw => by
      simp only [wsV, List.mem_append, List.mem_cons, List.not_mem_nil, or_false] at hw
      rcases hw with (rfl | rfl | rfl | rfl) | rfl | h
      · exact lk
      · exact im.1
      · exact im.2
      · exact cm.2.1
      · exact cm.1
      · exact h)
    exact va_runV S hM (cwV n hts hT rfl rfl rfl ⟨rfl, cm.2.2.1, cm.2.2.2.1, cm.2.2.2.2⟩ (by rw [hR]; exact hroom)) hPV rfl hn hl.1 rfl (by show 2 * 0 + _ ≤ 8; omega) hd ⟨by omega, by omega⟩
  · exact va_runVN S hM ⟨va_cnB n hts hG rfl rfl rfl (hB.2.2.2.2.2.2.2.2.1.1 _ lk rfl) (hts _ cm.2.1) cm.2.2 (by rw [hR]; exact hroom), hts _ im.1, hts _ im.2⟩ hPV rfl hn hl.1 rfl (by show 2 * 0 + _ ≤ 8; omega) hd ⟨by omega, by omega⟩
theorem callS0 (hB : BB X D cy b y cc nL ret rm) {y' : MethodName} {cc' : ByteArray} {nL' n : Nat} {ret' : Option FieldType} {rm' : Room} {idx : Nat} {own : String} {As rest : List Value} {rv : Option Value} {μ1 : MS} {st0 st1 : List Value}
    (ho : y.cls = own) (cm : CM y' cc' nL' ret' n) (sm : Cond.static y' ∈ GW) (lk : (y'.cls = own ∧ Cond.methodLink own idx y' ∈ GW) ∨ ∃ host, Cond.methodLinkNest own idx y' host ∈ lw_tbl) (hroom : rm'.frames + 1 ≤ rm.frames ∧ 8 + (nL' + 11) + rm'.locals ≤ rm.locals) (hn : As.length = n) (hrest : (rest.map fun v => v.category).sum ≤ 8)
    (hd : decode cc pc = .ok (.invokestatic idx, 3)) (hM : Met (xl X) y' (.code y' cc' nL' ret' :: GW) rm' (Pw D cy b As μ) (Qw D cy b rv μ1) rm'.cells rm'.slots (fun q => b ≤ q)) (hst0 : st0 = As.reverse ++ rest) (hst1 : st1 = rv.toList ++ rest)
    (k : WW X D cy b r μ' nL kc ks (pc + 3) lv st1 μ1) : WW X D cy b r μ' nL (kc + rm'.cells) (ks + rm'.slots) pc lv st0 μ := by
  subst ho
  subst hst0
  intro H locs ls cells slots g1 g2 hW hS hl
  have hts := hB.2.2.2.2.1
  have hR : xR X = rm := hB.2.2.2.2.2.2.2.2.2.2.1
  have hG : GoodIn GW (.code y' cc' nL' ret' :: GW) := gw_in (fun w hw => by rcases List.mem_cons.mp hw with rfl | h; exact cm.1; exact h)
  have S : CallFix (xp X) (xm X) (xc X) cc nL (xs X) (xa X) GW y.cls := ⟨hB.1, hB.2.1, hB.2.2.1, hB.2.2.2.1, hts⟩
  have hPS : PreS (xs X) H (Pw D cy b As μ) As := ⟨Pw.blind, pre_w hB hW hS⟩
  refine call_end hB (a := As.toArray) hst1 k g1 g2 hS hl ?_
  rcases lk with ⟨hc, lk⟩ | ⟨host, lk⟩
  · have hT : GoodIn GW (wsS y.cls idx y' (.code y' cc' nL' ret' :: GW)) := gw_in (fun w hw => by
      simp only [wsS, List.mem_append, List.mem_cons, List.not_mem_nil, or_false] at hw
      rcases hw with (rfl | rfl | rfl) | rfl | h
      · exact lk
      · exact sm
      · rw [← hc]; exact cm.2.1
      · exact cm.1
      · exact h)
    exact va_runS S hM (cwS n hts hT rfl rfl rfl ⟨hc, cm.2.2.1, cm.2.2.2.1, cm.2.2.2.2⟩ (by rw [hR]; exact hroom)) hPS rfl hn hl.1 rfl (by show 2 * 0 + _ ≤ 8; omega) hd ⟨by omega, by omega⟩
  · exact va_runSN S hM ⟨va_cnB n hts hG rfl rfl rfl (hB.2.2.2.2.2.2.2.2.1.1 _ lk rfl) (hts _ cm.2.1) cm.2.2 (by rw [hR]; exact hroom), hts _ sm, trivial⟩ hPS rfl hn hl.1 rfl (by show 2 * 0 + _ ≤ 8; omega) hd ⟨by omega, by omega⟩
theorem callI0 (hB : BB X D cy b y cc nL ret rm) {y' : MethodName} {cc' : ByteArray} {nL' n : Nat} {rm' : Room} {idx : Nat} {own : String} {a : Nat} {As rest : List Value} {μ1 : MS} {st0 : List Value}
    (ho : y.cls = own) (cm : CM y' cc' nL' none n) (hi : Cond.instanceMethod y' ∈ GW) (hy1 : y'.name = "<init>") (lk : MLk own idx y') (hroom : rm'.frames + 1 ≤ rm.frames ∧ 8 + (nL' + 11) + rm'.locals ≤ rm.locals) (hn : As.length = n) (hrest : (rest.map fun v => v.category).sum ≤ 8)
    (hd : decode cc pc = .ok (.invokespecial idx, 3)) (hM : Met (xl X) y' (.code y' cc' nL' none :: GW) rm' (Pw D cy b (.ref (b + a) :: As) μ) (Qw D cy b none μ1) rm'.cells rm'.slots (fun q => b ≤ q)) (hst0 : st0 = As.reverse ++ .ref (b + a) :: rest)
    (k : WW X D cy b r μ' nL kc ks (pc + 3) lv rest μ1) : WW X D cy b r μ' nL (kc + rm'.cells) (ks + rm'.slots) pc lv st0 μ := by
  subst ho
  subst hst0
  intro H locs ls cells slots g1 g2 hW hS hl
  have hts := hB.2.2.2.2.1
  have hR : xR X = rm := hB.2.2.2.2.2.2.2.2.2.2.1
  have hG : GoodIn GW (.code y' cc' nL' none :: GW) := gw_in (fun w hw => by rcases List.mem_cons.mp hw with rfl | h; exact cm.1; exact h)
  have S : CallFix (xp X) (xm X) (xc X) cc nL (xs X) (xa X) GW y.cls := ⟨hB.1, hB.2.1, hB.2.2.1, hB.2.2.2.1, hts⟩
  have hPS : PreS (xs X) H (Pw D cy b (.ref (b + a) :: As) μ) (.ref (b + a) :: As) := ⟨Pw.blind, pre_w hB hW hS⟩
  refine call_end hB (a := (.ref (b + a) :: As : List Value).toArray) (rv := none) (rest := rest) rfl k g1 g2 hS hl ?_
  rcases lk with lk | ⟨host, lk⟩
  · exact va_runI S hM (cwI n hts hG rfl rfl rfl (hts _ cm.2.1) (hts _ lk) (hts _ hi) hy1 cm.2.2 (by rw [hR]; exact hroom)) hPS rfl hn hl.1 rfl (by show 2 * 0 + _ ≤ 8; omega) hd ⟨by omega, by omega⟩
  · exact va_runIN S hM ⟨va_cnB n hts hG rfl rfl rfl (hB.2.2.2.2.2.2.2.2.1.1 _ lk rfl) (hts _ cm.2.1) cm.2.2 (by rw [hR]; exact hroom), hy1, hts _ hi⟩ hPS rfl hn hl.1 rfl (by show 2 * 0 + _ ≤ 8; omega) hd ⟨by omega, by omega⟩
theorem isO_some {α : Type} {μ : MS} {c a : Nat} {f : Option α} {z : α} (h : isO μ c a f = some z) : μ.1[a]? = some (c, 0) ∧ f = some z := by
  unfold isO at h
  split at h
  · rename_i hc
    exact ⟨hc, h⟩
  · cases h
theorem bind_inv {α β : Type} {f : Option α} {K : α → Option β} {R : β} (h : f.bind K = some R) : ∃ z, f = some z ∧ K z = some R := by
  cases hf : f with
  | none => simp [hf] at h
  | some z => exact ⟨z, rfl, by simpa [hf] using h⟩
theorem r_cVi (hB : BB X D cy b y cc nL ret rm) {α : Type} {F : Option (Int32 × MS)} {K : Int32 × MS → Option α} {R : α} {y' : MethodName} {cc' : ByteArray} {nL' n : Nat} {ret' : Option FieldType} {rm' : Room} {ci idx : Nat} {own : String} {T : u_T} {N : Nat} {ty : Nat → FieldType} {a : Nat} (As rest : List Value) {st0 : List Value}
    (cf : CF ci y'.cls T N ty) (ho : y.cls = own) (cm : CM y' cc' nL' ret' n) (im : IM y') (lk : MLk own idx y') (hroom : rm'.frames + 1 ≤ rm.frames ∧ 8 + (nL' + 11) + rm'.locals ≤ rm.locals) (h0 : rm'.cells = 0) (h1 : rm'.slots = 0) (hn : As.length = n) (hrest : (rest.map fun v => v.category).sum ≤ 8)
    (hd : decode cc pc = .ok (.invokevirtual idx, 3)) (hM : ∀ z, F = some z → Met (xl X) y' (.code y' cc' nL' ret' :: GW) rm' (Pw D cy b (.ref (b + a) :: As) μ) (Qw D cy b (some (.int z.1)) (z.2)) rm'.cells rm'.slots (fun q => b ≤ q)) (hst0 : st0 = As.reverse ++ .ref (b + a) :: rest) (hf : (isO μ ci a F).bind K = some R)
    (k : ∀ z, K z = some R → WW X D cy b r μ' nL kc ks (pc + 3) lv (.int z.1 :: rest) (z.2)) : WW X D cy b r μ' nL kc ks pc lv st0 μ := by
  obtain ⟨z, hz, hk⟩ := bind_inv hf
  obtain ⟨ha, hF⟩ := isO_some hz
  have h9 := callV0 hB cf ho cm im lk hroom hn hrest hd (hM z hF) ha hst0 (rv := some (.int z.1)) rfl (k z hk)
  rw [h0, h1] at h9
  exact h9
theorem r_cSi (hB : BB X D cy b y cc nL ret rm) {α : Type} {F : Option (Int32 × MS)} {K : Int32 × MS → Option α} {R : α} {y' : MethodName} {cc' : ByteArray} {nL' n : Nat} {ret' : Option FieldType} {rm' : Room} {idx : Nat} {own : String} (As rest : List Value) {st0 : List Value}
    (ho : y.cls = own) (cm : CM y' cc' nL' ret' n) (sm : Cond.static y' ∈ GW) (lk : (y'.cls = own ∧ Cond.methodLink own idx y' ∈ GW) ∨ ∃ host, Cond.methodLinkNest own idx y' host ∈ lw_tbl) (hroom : rm'.frames + 1 ≤ rm.frames ∧ 8 + (nL' + 11) + rm'.locals ≤ rm.locals) (h0 : rm'.cells = 0) (h1 : rm'.slots = 0) (hn : As.length = n) (hrest : (rest.map fun v => v.category).sum ≤ 8)
    (hd : decode cc pc = .ok (.invokestatic idx, 3)) (hM : ∀ z, F = some z → Met (xl X) y' (.code y' cc' nL' ret' :: GW) rm' (Pw D cy b As μ) (Qw D cy b (some (.int z.1)) (z.2)) rm'.cells rm'.slots (fun q => b ≤ q)) (hst0 : st0 = As.reverse ++ rest) (hf : F.bind K = some R)
    (k : ∀ z, K z = some R → WW X D cy b r μ' nL kc ks (pc + 3) lv (.int z.1 :: rest) (z.2)) : WW X D cy b r μ' nL kc ks pc lv st0 μ := by
  obtain ⟨z, hF, hk⟩ := bind_inv hf
  have h9 := callS0 hB ho cm sm lk hroom hn hrest hd (hM z hF) hst0 (rv := some (.int z.1)) rfl (k z hk)
  rw [h0, h1] at h9
  exact h9
theorem r_cVl (hB : BB X D cy b y cc nL ret rm) {α : Type} {F : Option (Int64 × MS)} {K : Int64 × MS → Option α} {R : α} {y' : MethodName} {cc' : ByteArray} {nL' n : Nat} {ret' : Option FieldType} {rm' : Room} {ci idx : Nat} {own : String} {T : u_T} {N : Nat} {ty : Nat → FieldType} {a : Nat} (As rest : List Value) {st0 : List Value}
    (cf : CF ci y'.cls T N ty) (ho : y.cls = own) (cm : CM y' cc' nL' ret' n) (im : IM y') (lk : MLk own idx y') (hroom : rm'.frames + 1 ≤ rm.frames ∧ 8 + (nL' + 11) + rm'.locals ≤ rm.locals) (h0 : rm'.cells = 0) (h1 : rm'.slots = 0) (hn : As.length = n) (hrest : (rest.map fun v => v.category).sum ≤ 8)
    (hd : decode cc pc = .ok (.invokevirtual idx, 3)) (hM : ∀ z, F = some z → Met (xl X) y' (.code y' cc' nL' ret' :: GW) rm' (Pw D cy b (.ref (b + a) :: As) μ) (Qw D cy b (some (.long z.1)) (z.2)) rm'.cells rm'.slots (fun q => b ≤ q)) (hst0 : st0 = As.reverse ++ .ref (b + a) :: rest) (hf : (isO μ ci a F).bind K = some R)
    (k : ∀ z, K z = some R → WW X D cy b r μ' nL kc ks (pc + 3) lv (.long z.1 :: rest) (z.2)) : WW X D cy b r μ' nL kc ks pc lv st0 μ := by
  obtain ⟨z, hz, hk⟩ := bind_inv hf
  obtain ⟨ha, hF⟩ := isO_some hz
  have h9 := callV0 hB cf ho cm im lk hroom hn hrest hd (hM z hF) ha hst0 (rv := some (.long z.1)) rfl (k z hk)
  rw [h0, h1] at h9
  exact h9
theorem r_cSl (hB : BB X D cy b y cc nL ret rm) {α : Type} {F : Option (Int64 × MS)} {K : Int64 × MS → Option α} {R : α} {y' : MethodName} {cc' : ByteArray} {nL' n : Nat} {ret' : Option FieldType} {rm' : Room} {idx : Nat} {own : String} (As rest : List Value) {st0 : List Value}
    (ho : y.cls = own) (cm : CM y' cc' nL' ret' n) (sm : Cond.static y' ∈ GW) (lk : (y'.cls = own ∧ Cond.methodLink own idx y' ∈ GW) ∨ ∃ host, Cond.methodLinkNest own idx y' host ∈ lw_tbl) (hroom : rm'.frames + 1 ≤ rm.frames ∧ 8 + (nL' + 11) + rm'.locals ≤ rm.locals) (h0 : rm'.cells = 0) (h1 : rm'.slots = 0) (hn : As.length = n) (hrest : (rest.map fun v => v.category).sum ≤ 8)
    (hd : decode cc pc = .ok (.invokestatic idx, 3)) (hM : ∀ z, F = some z → Met (xl X) y' (.code y' cc' nL' ret' :: GW) rm' (Pw D cy b As μ) (Qw D cy b (some (.long z.1)) (z.2)) rm'.cells rm'.slots (fun q => b ≤ q)) (hst0 : st0 = As.reverse ++ rest) (hf : F.bind K = some R)
    (k : ∀ z, K z = some R → WW X D cy b r μ' nL kc ks (pc + 3) lv (.long z.1 :: rest) (z.2)) : WW X D cy b r μ' nL kc ks pc lv st0 μ := by
  obtain ⟨z, hF, hk⟩ := bind_inv hf
  have h9 := callS0 hB ho cm sm lk hroom hn hrest hd (hM z hF) hst0 (rv := some (.long z.1)) rfl (k z hk)
  rw [h0, h1] at h9
  exact h9
theorem r_cVr (hB : BB X D cy b y cc nL ret rm) {α : Type} {F : Option (Nat × MS)} {K : Nat × MS → Option α} {R : α} {y' : MethodName} {cc' : ByteArray} {nL' n : Nat} {ret' : Option FieldType} {rm' : Room} {ci idx : Nat} {own : String} {T : u_T} {N : Nat} {ty : Nat → FieldType} {a : Nat} (As rest : List Value) {st0 : List Value}
    (cf : CF ci y'.cls T N ty) (ho : y.cls = own) (cm : CM y' cc' nL' ret' n) (im : IM y') (lk : MLk own idx y') (hroom : rm'.frames + 1 ≤ rm.frames ∧ 8 + (nL' + 11) + rm'.locals ≤ rm.locals) (h0 : rm'.cells = 0) (h1 : rm'.slots = 0) (hn : As.length = n) (hrest : (rest.map fun v => v.category).sum ≤ 8)
    (hd : decode cc pc = .ok (.invokevirtual idx, 3)) (hM : ∀ z, F = some z → Met (xl X) y' (.code y' cc' nL' ret' :: GW) rm' (Pw D cy b (.ref (b + a) :: As) μ) (Qw D cy b (some (.ref (b + z.1))) (z.2)) rm'.cells rm'.slots (fun q => b ≤ q)) (hst0 : st0 = As.reverse ++ .ref (b + a) :: rest) (hf : (isO μ ci a F).bind K = some R)
    (k : ∀ z, K z = some R → WW X D cy b r μ' nL kc ks (pc + 3) lv (.ref (b + z.1) :: rest) (z.2)) : WW X D cy b r μ' nL kc ks pc lv st0 μ := by
  obtain ⟨z, hz, hk⟩ := bind_inv hf
  obtain ⟨ha, hF⟩ := isO_some hz
  have h9 := callV0 hB cf ho cm im lk hroom hn hrest hd (hM z hF) ha hst0 (rv := some (.ref (b + z.1))) rfl (k z hk)
  rw [h0, h1] at h9
  exact h9
theorem r_cSr (hB : BB X D cy b y cc nL ret rm) {α : Type} {F : Option (Nat × MS)} {K : Nat × MS → Option α} {R : α} {y' : MethodName} {cc' : ByteArray} {nL' n : Nat} {ret' : Option FieldType} {rm' : Room} {idx : Nat} {own : String} (As rest : List Value) {st0 : List Value}
    (ho : y.cls = own) (cm : CM y' cc' nL' ret' n) (sm : Cond.static y' ∈ GW) (lk : (y'.cls = own ∧ Cond.methodLink own idx y' ∈ GW) ∨ ∃ host, Cond.methodLinkNest own idx y' host ∈ lw_tbl) (hroom : rm'.frames + 1 ≤ rm.frames ∧ 8 + (nL' + 11) + rm'.locals ≤ rm.locals) (h0 : rm'.cells = 0) (h1 : rm'.slots = 0) (hn : As.length = n) (hrest : (rest.map fun v => v.category).sum ≤ 8)
    (hd : decode cc pc = .ok (.invokestatic idx, 3)) (hM : ∀ z, F = some z → Met (xl X) y' (.code y' cc' nL' ret' :: GW) rm' (Pw D cy b As μ) (Qw D cy b (some (.ref (b + z.1))) (z.2)) rm'.cells rm'.slots (fun q => b ≤ q)) (hst0 : st0 = As.reverse ++ rest) (hf : F.bind K = some R)
    (k : ∀ z, K z = some R → WW X D cy b r μ' nL kc ks (pc + 3) lv (.ref (b + z.1) :: rest) (z.2)) : WW X D cy b r μ' nL kc ks pc lv st0 μ := by
  obtain ⟨z, hF, hk⟩ := bind_inv hf
  have h9 := callS0 hB ho cm sm lk hroom hn hrest hd (hM z hF) hst0 (rv := some (.ref (b + z.1))) rfl (k z hk)
  rw [h0, h1] at h9
  exact h9
theorem r_cVv (hB : BB X D cy b y cc nL ret rm) {α : Type} {F : Option (MS)} {K : MS → Option α} {R : α} {y' : MethodName} {cc' : ByteArray} {nL' n : Nat} {ret' : Option FieldType} {rm' : Room} {ci idx : Nat} {own : String} {T : u_T} {N : Nat} {ty : Nat → FieldType} {a : Nat} (As rest : List Value) {st0 : List Value}
    (cf : CF ci y'.cls T N ty) (ho : y.cls = own) (cm : CM y' cc' nL' ret' n) (im : IM y') (lk : MLk own idx y') (hroom : rm'.frames + 1 ≤ rm.frames ∧ 8 + (nL' + 11) + rm'.locals ≤ rm.locals) (h0 : rm'.cells = 0) (h1 : rm'.slots = 0) (hn : As.length = n) (hrest : (rest.map fun v => v.category).sum ≤ 8)
    (hd : decode cc pc = .ok (.invokevirtual idx, 3)) (hM : ∀ z, F = some z → Met (xl X) y' (.code y' cc' nL' ret' :: GW) rm' (Pw D cy b (.ref (b + a) :: As) μ) (Qw D cy b (none) (z)) rm'.cells rm'.slots (fun q => b ≤ q)) (hst0 : st0 = As.reverse ++ .ref (b + a) :: rest) (hf : (isO μ ci a F).bind K = some R)
    (k : ∀ z, K z = some R → WW X D cy b r μ' nL kc ks (pc + 3) lv (rest) (z)) : WW X D cy b r μ' nL kc ks pc lv st0 μ := by
  obtain ⟨z, hz, hk⟩ := bind_inv hf
  obtain ⟨ha, hF⟩ := isO_some hz
  have h9 := callV0 hB cf ho cm im lk hroom hn hrest hd (hM z hF) ha hst0 (rv := none) rfl (k z hk)
  rw [h0, h1] at h9
  exact h9
theorem r_cSv (hB : BB X D cy b y cc nL ret rm) {α : Type} {F : Option (MS)} {K : MS → Option α} {R : α} {y' : MethodName} {cc' : ByteArray} {nL' n : Nat} {ret' : Option FieldType} {rm' : Room} {idx : Nat} {own : String} (As rest : List Value) {st0 : List Value}
    (ho : y.cls = own) (cm : CM y' cc' nL' ret' n) (sm : Cond.static y' ∈ GW) (lk : (y'.cls = own ∧ Cond.methodLink own idx y' ∈ GW) ∨ ∃ host, Cond.methodLinkNest own idx y' host ∈ lw_tbl) (hroom : rm'.frames + 1 ≤ rm.frames ∧ 8 + (nL' + 11) + rm'.locals ≤ rm.locals) (h0 : rm'.cells = 0) (h1 : rm'.slots = 0) (hn : As.length = n) (hrest : (rest.map fun v => v.category).sum ≤ 8)
    (hd : decode cc pc = .ok (.invokestatic idx, 3)) (hM : ∀ z, F = some z → Met (xl X) y' (.code y' cc' nL' ret' :: GW) rm' (Pw D cy b As μ) (Qw D cy b (none) (z)) rm'.cells rm'.slots (fun q => b ≤ q)) (hst0 : st0 = As.reverse ++ rest) (hf : F.bind K = some R)
    (k : ∀ z, K z = some R → WW X D cy b r μ' nL kc ks (pc + 3) lv (rest) (z)) : WW X D cy b r μ' nL kc ks pc lv st0 μ := by
  obtain ⟨z, hF, hk⟩ := bind_inv hf
  have h9 := callS0 hB ho cm sm lk hroom hn hrest hd (hM z hF) hst0 (rv := none) rfl (k z hk)
  rw [h0, h1] at h9
  exact h9
theorem r_cI (hB : BB X D cy b y cc nL ret rm) {α : Type} {F : Option MS} {K : MS → Option α} {R : α} {y' : MethodName} {cc' : ByteArray} {nL' n : Nat} {rm' : Room} {idx : Nat} {own : String} {a : Nat} (As rest : List Value) {st0 : List Value}
    (ho : y.cls = own) (cm : CM y' cc' nL' none n) (hi : Cond.instanceMethod y' ∈ GW) (hy1 : y'.name = "<init>") (lk : MLk own idx y') (hroom : rm'.frames + 1 ≤ rm.frames ∧ 8 + (nL' + 11) + rm'.locals ≤ rm.locals) (hn : As.length = n) (hrest : (rest.map fun v => v.category).sum ≤ 8)
    (hd : decode cc pc = .ok (.invokespecial idx, 3)) (hM : ∀ z, F = some z → Met (xl X) y' (.code y' cc' nL' none :: GW) rm' (Pw D cy b (.ref (b + a) :: As) μ) (Qw D cy b none z) rm'.cells rm'.slots (fun q => b ≤ q)) (hst0 : st0 = As.reverse ++ .ref (b + a) :: rest) (hf : F.bind K = some R)
    (k : ∀ z, K z = some R → WW X D cy b r μ' nL kc ks (pc + 3) lv rest z) : WW X D cy b r μ' nL (kc + rm'.cells) (ks + rm'.slots) pc lv st0 μ := by
  obtain ⟨z, hF, hk⟩ := bind_inv hf
  exact callI0 hB ho cm hi hy1 lk hroom hn hrest hd (hM z hF) hst0 (k z hk)
theorem r_copyI (hB : BB X D cy b y cc nL ret rm) {α : Type} {K : MS → Option α} {R : α} {idx : Nat} {own : String} {a0 a1 : Nat} {sp dp n : Int32} (ho : y.cls = own) (w1 : Cond.methodLink own idx arraycopyName ∈ GW) (w2 : Cond.native arraycopyName ∈ GW) (w3 : Cond.static arraycopyName ∈ GW) (w4 : Cond.initialized "java/lang/System" ∈ GW) (hr : 1 ≤ rm.frames) (hr2 : (st.map fun v => v.category).sum + (nativeFrameWords "java/lang/System" "arraycopy" 5 + 11) ≤ rm.locals) (hd : decode cc pc = .ok (.invokestatic idx, 3))
    (hf : (cpI μ a0 sp a1 dp n).bind K = some R) (k : ∀ z, K z = some R → WW X D cy b r μ' nL kc ks (pc + 3) lv st z) : WW X D cy b r μ' nL kc ks pc lv (.int n :: .int dp :: .ref (b + a1) :: .int sp :: .ref (b + a0) :: st) μ := by
  subst ho
  obtain ⟨z, hz, hk⟩ := bind_inv hf
  unfold cpI at hz
  split at hz
  case h_2 => cases hz
  rename_i n0 n1 ha0 ha1
  split at hz
  case isFalse => cases hz
  rename_i hc
  obtain ⟨h1, h2, h3, h4, h5⟩ := hc
  cases hz
  have hz := k _ hk
  have h1' : ¬ sp < 0 := Int32.not_lt.mpr h1
  have h2' : ¬ dp < 0 := Int32.not_lt.mpr h2
  have h3' : ¬ n < 0 := Int32.not_lt.mpr h3
  intro H locs ls cells slots g1 g2 hW hS hl
  have hts := hB.2.2.2.2.1
  have hR : xR X = rm := hB.2.2.2.2.2.2.2.2.2.2.1
  have hK := hB.2.2.2.2.2.2.2.1
  have hc0 := hW.2 a0 _ ha0
  have hc1 := hW.2 a1 _ ha1
  rw [me_I (by simp)] at hc0 hc1
  have nn : ∀ z : Int32, ¬ z < 0 → z.toInt = (z.toNatClampNeg : Int) := by
    intro z hz
    have hz0 : (0 : Int) ≤ z.toInt := by
      have := Int32.not_lt.mp hz
      simpa using Int32.le_iff_toInt_le.mp this
    show z.toInt = ((z.toInt.toNat : Nat) : Int)
    omega
  intro T hT X0
  have hc0' : H[b + a0]? = some (vp_cell (cy 15) (n0, .inl (μ.2.1 a0))) := hc0
  have hc1' : H[b + a1]? = some (vp_cell (cy 15) (n1, .inl (μ.2.1 a1))) := hc1
  obtain ⟨-, k0, hk0, cm0, hkk0⟩ := (hK.2 2 _ rfl).1 n0 (fun j => .int (μ.2.1 a0 j))
  obtain ⟨vm', X', step⟩ := X0.arraycopy hB.1 hB.2.2.2.1 (hts _ w1) (hts _ w2) (hts _ w3) (hts _ w4) (src := b + a0) (dst := b + a1) (cs := vp_cell (cy 15) (n0, .inl (μ.2.1 a0))) (cd := vp_cell (cy 15) (n1, .inl (μ.2.1 a1))) (srcPos := sp) (destPos := dp) (n := n) (by rw [hT]; exact hc0') (by rw [hT]; exact hc1')
    (fun _ h => by cases h) (fun _ h => by cases h) (fun h => by cases h) (fun h => by cases h) hk0 hk0 hkk0 hkk0 (by simp [refKind]) h1' h2' h3'
    (by rw [nn sp h1', nn n h3']; show ¬ _ > ((arrV (cy 15) n0 (fun j => .int (μ.2.1 a0 j))).slots.size : Int); rw [arrV_size]; omega)
    (by rw [nn dp h2', nn n h3']; show ¬ _ > ((arrV (cy 15) n1 (fun j => .int (μ.2.1 a1 j))).slots.size : Int); rw [arrV_size]; omega)
    (fun vm₁ _ i hi => by
      have e : (vp_cell (cy 15) (n0, .inl (μ.2.1 a0))).slots.getD (sp.toNatClampNeg + i) .null = .int (μ.2.1 a0 (sp.toNatClampNeg + i)) := by
        show (arrV (cy 15) n0 (fun j => .int (μ.2.1 a0 j))).slots.getD _ _ = _
        rw [Array.getD_eq_getD_getElem?, arrV_read _ _ (by omega)]
        rfl
      refine ⟨?_, ?_⟩
      · rw [e]; rfl
      · rw [e]; exact trivial)
    (g := F0 (xm X) pc ls (.int n :: .int dp :: .ref (b + a1) :: .int sp :: .ref (b + a0) :: st)) rfl (by rw [hB.2.2.1]; exact hl.1) (rest := st) rfl (by rw [hB.2.1]; exact hd) (by rw [hR]; exact hr) (by rw [hR]; show 2 * 0 + _ + _ ≤ _; omega)
  have e1 : copied (vp_cell (cy 15) (n0, .inl (μ.2.1 a0))) (vp_cell (cy 15) (n1, .inl (μ.2.1 a1))) sp dp n = vp_cell (cy 15) (n1, .inl (va_cpy (μ.2.1 a0) (μ.2.1 a1) sp.toNatClampNeg dp.toNatClampNeg n.toNatClampNeg)) := va_copied (fun z => .int z) (cy 15) (cy 15) (μ.2.1 a0) (μ.2.1 a1) h4
  rw [e1] at X' step
  have hlt : b + a1 < H.size := (Array.getElem?_eq_some_iff.mp hc1').1
  have hheap : ((T.setVm vm').setCell (b + a1) (vp_cell (cy 15) (n1, .inl (va_cpy (μ.2.1 a0) (μ.2.1 a1) sp.toNatClampNeg dp.toNatClampNeg n.toNatClampNeg)))).heap = H.setIfInBounds (b + a1) (vp_cell (cy 15) (n1, .inl (va_cpy (μ.2.1 a0) (μ.2.1 a1) sp.toNatClampNeg dp.toNatClampNeg n.toNatClampNeg))) := by rw [← hT]; rfl
  have oq : ∀ q : Nat, q ≠ b + a1 → (H.setIfInBounds (b + a1) (vp_cell (cy 15) (n1, .inl (va_cpy (μ.2.1 a0) (μ.2.1 a1) sp.toNatClampNeg dp.toNatClampNeg n.toNatClampNeg))))[q]? = H[q]? := fun q hq => by simp [Array.getElem?_setIfInBounds, Ne.symm hq]
  have hW' : Wd D cy b (uRow μ a1 (va_cpy (μ.2.1 a0) (μ.2.1 a1) sp.toNatClampNeg dp.toNatClampNeg n.toNatClampNeg)) (H.setIfInBounds (b + a1) (vp_cell (cy 15) (n1, .inl (va_cpy (μ.2.1 a0) (μ.2.1 a1) sp.toNatClampNeg dp.toNatClampNeg n.toNatClampNeg)))) := by
    refine hW.put ha1 rfl (fun k hk => ⟨by simp [uRow, hk], rfl, rfl⟩) (by simp) oq ?_
    rw [me_I (by simp)]
    show (H.setIfInBounds (b + a1) _)[b + a1]? = some (vp_cell _ _)
    simp [Array.getElem?_setIfInBounds, hlt, uRow]
  obtain ⟨t, a2, b2⟩ := hz _ _ ls cells slots g1 g2 hW' ⟨by simp; exact hS.1, fun q u1 u2 => by
      rw [oq q (fun e => u2 (by rw [e]; exact Nat.le_add_right b a1))]
      exact hS.2.1 q u1 u2, fun q hq => by
      rcases List.mem_append.mp hq with h | h
      · exact hS.2.2 q h
      · obtain ⟨z, -, hz⟩ := List.mem_map.mp h
        rw [← hz]
        exact Nat.le_add_right b a1⟩ hl _ hheap X'
  exact ⟨t, step t a2, b2⟩
theorem r_tabIn (hB : BB X D cy b y cc nL ret rm) {dflt lo hi : Int} {offs : Array Int} {len : Nat} {x : Int32} {off : Int} {tgt : Nat} (hd : decode cc pc = .ok (.tableswitch dflt lo hi offs, len)) (h1 : ¬ x.toInt < lo) (h2 : ¬ hi < x.toInt) (ho : offs[(x.toInt - lo).toNat]? = some off) (ht : (pc : Int) + off = (tgt : Int)) (k : WW X D cy b r μ' nL kc ks tgt lv st μ) : WW X D cy b r μ' nL kc ks pc lv (.int x :: st) μ :=
  fun H locs ls cells slots g1 g2 hW hS hl => lv_tableIn hB.1 hB.2.1 hd h1 h2 ho ht (k H locs ls cells slots g1 g2 hW hS hl)
theorem r_tabOut (hB : BB X D cy b y cc nL ret rm) {dflt lo hi : Int} {offs : Array Int} {len : Nat} {x : Int32} {tgt : Nat} (hd : decode cc pc = .ok (.tableswitch dflt lo hi offs, len)) (h : x.toInt < lo ∨ hi < x.toInt) (ht : (pc : Int) + dflt = (tgt : Int)) (k : WW X D cy b r μ' nL kc ks tgt lv st μ) : WW X D cy b r μ' nL kc ks pc lv (.int x :: st) μ :=
  fun H locs ls cells slots g1 g2 hW hS hl => lv_tableOut hB.1 hB.2.1 hd h ht (k H locs ls cells slots g1 g2 hW hS hl)
theorem ww_lv {lv' : List (Nat × Value)} (h : lv = lv') (k : WW X D cy b r μ' nL kc ks pc lv' st μ) : WW X D cy b r μ' nL kc ks pc lv st μ := by rw [h]; exact k
theorem r_iincB (hB : BB X D cy b y cc nL ret rm) {α : Type} {K : Int32 → Option α} {R : α} {i : Nat} {n : Int} {x w : Int32} (q : Nat) (hq : lv[q]? = some (i, .int x)) (hd : decode cc pc = .ok (.iinc i n, 3)) (hw : Int32.ofInt n = w) (hn : i < nL) (hf : (some (x + w)).bind K = some R) (k : ∀ v, K v = some R → WW X D cy b r μ' nL kc ks (pc + 3) ((i, .int v) :: l1 lv i) st μ) : WW X D cy b r μ' nL kc ks pc lv st μ :=
  r_iinc hB q hq hd (v := x + w) (by rw [hw]) hn rfl (k _ hf)
def rZ (v : Int32) (μ : MS) : Option (Int32 × MS) := if v = 0 ∨ v = 1 then some (v, μ) else none
def rC (v : Int32) (μ : MS) : Option (Int32 × MS) := if v.toUInt32.toUInt16.toUInt32.toInt32 = v then some (v, μ) else none
theorem rZ_inv {v : Int32} {μ : MS} {z : Int32 × MS} (h : rZ v μ = some z) : (v = 0 ∨ v = 1) ∧ z = (v, μ) := by
  unfold rZ at h
  split at h
  · rename_i hc; cases h; exact ⟨hc, rfl⟩
  · cases h
theorem rC_inv {v : Int32} {μ : MS} {z : Int32 × MS} (h : rC v μ = some z) : v.toUInt32.toUInt16.toUInt32.toInt32 = v ∧ z = (v, μ) := by
  unfold rC at h
  split at h
  · rename_i hc; cases h; exact ⟨hc, rfl⟩
  · cases h
theorem if_inv {α : Type} {c : Prop} [Decidable c] {A B : Option α} {R : α} (h : (if c then A else B) = some R) : (c ∧ A = some R) ∨ (¬ c ∧ B = some R) := by
  by_cases hc : c
  · exact Or.inl ⟨hc, by simpa [hc] using h⟩
  · exact Or.inr ⟨hc, by simpa [hc] using h⟩
theorem xr_inv {σ τ : Type} {f : Option τ} {z : σ ⊕ τ} (h : (xr f : Option (σ ⊕ τ)) = some z) : ∃ z', f = some z' ∧ z = .inr z' := by
  cases f with
  | none => simp [xr] at h
  | some q => simp only [xr, Option.map_some, Option.some.injEq] at h; exact ⟨q, rfl, h.symm⟩
theorem lpN_ind {σ τ : Type} {body : σ → Option (σ ⊕ τ)} {P : Nat → σ → Prop} {Q : τ → Prop} (hb : ∀ n s z, body s = some z → Sum.elim (P n) Q z → P (n + 1) s) : ∀ n s z, lpN body n s = some z → Q z → P n s
  | 0, s, z, h, _ => by simp [lpN] at h
  | n + 1, s, z, h, hq => by
    rw [lpN] at h
    cases hx : body s with
    | none => simp [hx] at h
    | some w =>
      cases w with
      | inr r' =>
        simp only [hx, Option.some.injEq] at h
        subst h
        exact hb n s _ hx hq
      | inl s' =>
        simp only [hx] at h
        exact hb n s _ hx (lpN_ind hb n s' z h hq)
theorem lp_ind {σ τ : Type} {body : σ → Option (σ ⊕ τ)} {P : σ → Prop} {Q : τ → Prop} (hb : ∀ s z, body s = some z → Sum.elim P Q z → P s) (s : σ) (z : τ) (h : lp body s = some z) (hq : Q z) : P s := by
  obtain ⟨n, hn⟩ := lp_iff.mp h
  exact lpN_ind (P := fun _ => P) (fun _ => hb) n s z hn hq
end Calls2
