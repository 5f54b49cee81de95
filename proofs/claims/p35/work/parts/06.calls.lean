/-! ROWS: new cells, copies, Math, returns, calls -/
def okT : FieldType → Bool
  | .float => false
  | .double => false
  | _ => true
theorem me_fresh_old {b : Nat} {cy : Nat → ClassId} {μ : MS} {h g : Nat × Nat} {k : Nat} (hk : k < μ.1.length) : me b cy (fresh μ h) k g = me b cy μ k g := by
  have hne : ¬ k = μ.1.length := by omega
  exact me_other (by simp [fresh, hne]) (by simp [fresh, hne]) (by simp [fresh, hne])
theorem Wd_fresh {D : va_G} {cy : Nat → ClassId} {b : Nat} {μ : MS} {H H1 : Heap} {h : Nat × Nat} (hW : Wd D cy b μ H) (hz : H1.size = b + μ.1.length + 1) (oq : ∀ q : Nat, q < b + μ.1.length → H1[q]? = H[q]?) (hn : va_at D vwCl (b + μ.1.length, me b cy (fresh μ h) μ.1.length h) H1) : Wd D cy b (fresh μ h) H1 := by
  refine ⟨by rw [hz]; simp [fresh]; omega, fun k g hk => ?_⟩
  have hlen : (fresh μ h).1 = μ.1 ++ [h] := rfl
  rw [hlen] at hk
  by_cases hk1 : k < μ.1.length
  · rw [List.getElem?_append_left hk1] at hk
    rw [me_fresh_old hk1]
    exact (hW.2 k g hk).kept (oq _ (by show b + k < _; omega))
  · have hk2 : k < (μ.1 ++ [h]).length := (List.getElem?_eq_some_iff.mp hk).1
    have hk3 : k = μ.1.length := by simp at hk2; omega
    subst hk3
    rw [List.getElem?_append_right (Nat.le_refl _)] at hk
    simp at hk
    subst hk
    exact hn
section Calls
variable {X : BX} {D : va_G} {cy : Nat → ClassId} {b : Nat} {y : MethodName} {cc : ByteArray} {nL : Nat} {ret : Option FieldType} {rm : Room} {r : Option Value} {μ μ' : MS} {kc ks pc : Nat} {lv : List (Nat × Value)} {st : List Value}
theorem r_new (hB : BB X D cy b y cc nL ret rm) {α : Type} {K : Nat × MS → Option α} {R : α} {ci idx : Nat} {C own : String} {T : u_T} {N : Nat} {ty : Nat → FieldType} (cf : CF ci C T N ty) (h9 : ∀ j, j < N → okT (ty j) = true) (ho : y.cls = own) (w1 : Cond.classLink own idx C ∈ GW) (w2 : Cond.instantiable C N ∈ GW) (w3 : Cond.initialized C ∈ GW) (hd : decode cc pc = .ok (.new idx, 3))
    (hf : (some (nO μ ci)).bind K = some R) (k : K (nO μ ci) = some R → WW X D cy b r μ' nL kc ks (pc + 3) lv (.ref (b + μ.1.length) :: st) (fresh μ (ci, 0))) : WW X D cy b r μ' nL (kc + 1) (ks + N) pc lv st μ := by
  subst ho
  obtain ⟨hc, h13, hN, hT, hws, htok, hnm⟩ := cf
  intro H locs ls cells slots g1 g2 hW hS hl
  have hts := hB.2.2.2.2.1
  have hKn := hB.2.2.2.2.2.2.2.1.1 ci _ hc
  refine W.newcK hB.1 hB.2.1 hB.2.2.2.1 (hts _ w1) (hts _ w2) (hts _ w3) rfl hd (by omega) (by omega) hKn.2.1 (h := b + μ.1.length) hW.1 fun H1 kC hkC e1 z1 o1 => ?_
  refine k hf H1 locs ls _ _ (by omega) (by omega) (Wd_fresh hW z1 o1 ?_) ⟨Nat.le_trans hS.1 (by rw [z1, hW.1]; omega), fun x h1 h2 => (o1 x (by have := hS.1; rw [hW.1] at this; omega)).trans (hS.2.1 x h1 h2), hS.2.2⟩ hl
  rw [me_obj h13]
  refine ⟨_, hc, (u_born ty hts hws hKn hkC e1 htok).to fun j hj => ?_⟩
  have hj2 : j < N := hj
  simp only [vp_V, List.getD_eq_getElem?_getD, List.getElem?_map, List.getElem?_range (show j < clN ci by rw [hN]; exact hj2), hT, Option.map_some, Option.getD_some]
  have hpar := h9 j hj2
  cases hty : ty j <;> simp [mv, fresh, defaultValue, va_rf]
  all_goals (rw [hty] at hpar; simp [okT] at hpar)
theorem r_newA (hB : BB X D cy b y cc nL ret rm) {α : Type} {K : Nat × MS → Option α} {R : α} {t N : Nat} {at_ : ArrayType} {n : Int32} (hty : (t = 15 ∧ at_ = .int) ∨ (t = 14 ∧ at_ = .char) ∨ (t = 15 ∧ at_ = .int) ∨ (t = 16 ∧ at_ = .long) ∨ (t = 15 ∧ at_ = .int)) (w1 : Cond.arrayClass (newarray.typeOf at_) ∈ GW) (h0 : ¬ n < 0) (hN : n.toNatClampNeg = N) (hbig : N ≤ 60000) (hd : decode cc pc = .ok (.newarray at_, 2))
    (hf : (some (nA μ t N)).bind K = some R) (k : K (nA μ t N) = some R → WW X D cy b r μ' nL kc ks (pc + 2) lv (.ref (b + μ.1.length) :: st) (fresh μ (t, N))) : WW X D cy b r μ' nL (kc + 1) (ks + N) pc lv (.int n :: st) μ := by
  intro H locs ls cells slots g1 g2 hW hS hl
  have hK := hB.2.2.2.2.2.2.2.1.2
  refine va_newaK hB.1 hB.2.1 (hB.2.2.2.2.1 _ w1) rfl hd rfl h0 hN (by rcases hty with ⟨rfl, rfl⟩ | ⟨rfl, rfl⟩ | ⟨rfl, rfl⟩ | ⟨rfl, rfl⟩ | ⟨rfl, rfl⟩ <;> simp [newarray.typeOf, componentBytes] <;> omega) (by omega) (by omega) (h := b + μ.1.length) hW.1 fun H1 cA e1 z1 o1 hAr hNm => ?_
  refine k hf H1 locs ls _ _ (by omega) (by omega) (Wd_fresh hW z1 o1 ?_) ⟨Nat.le_trans hS.1 (by rw [z1, hW.1]; omega), fun x h1 h2 => (o1 x (by have := hS.1; rw [hW.1] at this; omega)).trans (hS.2.1 x h1 h2), hS.2.2⟩ hl
  have key : ∀ (ty : FieldType), ty = newarray.typeOf at_ → (xs X).vm.findClass ("[" ++ ty.toString) = some (cy t) → cA = cy t := by
    intro ty h1 h2
    subst h1
    exact Option.some.inj (hNm.symm.trans h2)
  rcases hty with ⟨rfl, rfl⟩ | ⟨rfl, rfl⟩ | ⟨rfl, rfl⟩ | ⟨rfl, rfl⟩ | ⟨rfl, rfl⟩
  · have hc := key .int rfl (hK 2 _ rfl).2
    subst hc
    rw [me_I (by simp)]
    show H1[_]? = some (vp_cell _ _)
    rw [e1, vp_cell_i]
    simp [fresh, newarray.typeOf, defaultValue]
  · have hc := key .char rfl (hK 1 _ rfl).2
    subst hc
    rw [me_I (by simp)]
    show H1[_]? = some (vp_cell _ _)
    rw [e1, vp_cell_i]
    simp [fresh, newarray.typeOf, defaultValue]
  · have hc := key .int rfl (hK 2 _ rfl).2
    subst hc
    rw [me_I (by simp)]
    show H1[_]? = some (vp_cell _ _)
    rw [e1, vp_cell_i]
    simp [fresh, newarray.typeOf, defaultValue]
  · have hc := key .long rfl (hK 3 _ rfl).2
    subst hc
    rw [me_L]
    show H1[_]? = some (vp_cell _ _)
    rw [e1, vp_cell_l]
    simp [fresh, newarray.typeOf, defaultValue]
  · have hc := key .int rfl (hK 2 _ rfl).2
    subst hc
    rw [me_I (by simp)]
    show H1[_]? = some (vp_cell _ _)
    rw [e1, vp_cell_i]
    simp [fresh, newarray.typeOf, defaultValue]
theorem r_newR (hB : BB X D cy b y cc nL ret rm) {α : Type} {K : Nat × MS → Option α} {R : α} {t N idx : Nat} {C own : String} (ht : rkd t C) {n : Int32} (ho : y.cls = own) (w1 : Cond.classLink own idx C ∈ GW) (h0 : ¬ n < 0) (hN : n.toNatClampNeg = N) (hbig : N ≤ 60000) (hd : decode cc pc = .ok (.anewarray idx, 3))
    (hf : (some (nA μ t N)).bind K = some R) (k : K (nA μ t N) = some R → WW X D cy b r μ' nL kc ks (pc + 3) lv (.ref (b + μ.1.length) :: st) (fresh μ (t, N))) : WW X D cy b r μ' nL (kc + 1) (ks + N) pc lv (.int n :: st) μ := by
  subst ho
  subst hN
  intro H locs ls cells slots g1 g2 hW hS hl
  have hK := hB.2.2.2.2.2.2.2.1.2
  have hA := hB.2.2.2.2.2.2.2.2.1.2.1
  have hAO : va_AO C (xs X) := by
    rcases ht with ⟨-, rfl⟩ | ⟨-, rfl⟩ | ⟨-, rfl⟩
    · exact hA.1
    · exact hA.2.1
    · exact hA.2.2
  refine W.anew hB.1 hB.2.1 hB.2.2.2.1 (hB.2.2.2.2.1 _ w1) (va_AO.use hAO) rfl hd rfl h0 (by omega) (by omega) (by omega) fun cA kA comp f1 f2 f3 f4 => ?_
  have ht3 : t = 18 ∨ t = 19 ∨ t = 20 := by rcases ht with h | h | h <;> simp [h.1]
  obtain ⟨kA', comp', k1, k2, k3, k4⟩ := (hK (t - 13) _ (tyA_at ht)).2
  have hc : cA = cy t := Option.some.inj (f1.symm.trans k4)
  subst hc
  generalize hH1 : H.push ({ cls := cy t, slots := Array.replicate n.toNatClampNeg .null, vm := .none } : Cell) = H1
  have z1 : H1.size = b + μ.1.length + 1 := by rw [← hH1, Array.size_push, hW.1]
  have e1 : H1[b + μ.1.length]? = some (arrV (cy t) n.toNatClampNeg (fun _ => .null)) := by rw [← hH1, ← hW.1, Array.getElem?_push_size, ← arrV_new]
  have o1 : ∀ q : Nat, q < b + μ.1.length → H1[q]? = H[q]? := fun q hq => by rw [← hH1, Array.getElem?_push, if_neg (by rw [hW.1]; omega)]
  rw [hW.1]
  refine k hf H1 locs ls _ _ (by omega) (by omega) (Wd_fresh hW z1 o1 ?_) ⟨Nat.le_trans hS.1 (by rw [z1, hW.1]; omega), fun x h1 h2 => (o1 x (by have := hS.1; rw [hW.1] at this; omega)).trans (hS.2.1 x h1 h2), hS.2.2⟩ hl
  rw [me_R ht3]
  show H1[_]? = some (vp_cell _ _)
  rw [e1, vp_cell_q]
  simp [fresh, va_rf]
theorem r_objInit (hB : BB X D cy b y cc nL ret rm) {idx : Nat} {own : String} {a : Nat} (ho : y.cls = own) (w1 : Cond.methodLink own idx Lib.objectInit ∈ GW) (w2 : Cond.instanceMethod Lib.objectInit ∈ GW) (w3 : Cond.code Lib.objectInit ⟨#[0xb1]⟩ 1 none ∈ GW) (hd : decode cc pc = .ok (.invokespecial idx, 3)) (hr : 1 ≤ rm.frames) (hr2 : (st.map fun v => v.category).sum + 12 ≤ rm.locals)
    (k : WW X D cy b r μ' nL kc ks (pc + 3) lv st μ) : WW X D cy b r μ' nL kc ks pc lv (.ref a :: st) μ := by
  subst ho
  intro H locs ls cells slots g1 g2 hW hS hl
  have hts := hB.2.2.2.2.1
  have hR : xR X = rm := hB.2.2.2.2.2.2.2.2.2.2.1
  exact W.objInit hB.1 hB.2.1 hB.2.2.2.1 (hts _ w1) (hts _ w2) (hts _ w3) rfl (by rw [hB.2.2.1]; exact hl.1) rfl hd (by rw [hR]; exact hr) (by rw [hR]; show 2 * 0 + _ + 12 ≤ _; omega) (k H locs ls cells slots g1 g2 hW hS hl)
theorem r_max (hB : BB X D cy b y cc nL ret rm) {idx : Nat} {own : String} {x z : Int32} (ho : y.cls = own) (w1 : Cond.methodLink own idx Lib.Math.max.name ∈ GW) (w2 : Cond.static Lib.Math.max.name ∈ GW) (w3 : Cond.initialized "java/lang/Math" ∈ GW) (w4 : Cond.code Lib.Math.max.name Lib.Math.max.code 2 (some .int) ∈ GW) (hd : decode cc pc = .ok (.invokestatic idx, 3)) (hr : 1 ≤ rm.frames) (hr2 : (st.map fun v => v.category).sum + 13 ≤ rm.locals)
    (k : WW X D cy b r μ' nL kc ks (pc + 3) lv (.int (mxI x z) :: st) μ) : WW X D cy b r μ' nL kc ks pc lv (.int z :: .int x :: st) μ := by
  subst ho
  intro H locs ls cells slots g1 g2 hW hS hl
  have hts := hB.2.2.2.2.1
  have hR : xR X = rm := hB.2.2.2.2.2.2.2.2.2.2.1
  exact va_mmax hB.1 hB.2.1 (by rw [hB.2.2.1]; exact hl.1.symm) hB.2.2.2.1 (hts _ w1) (hts _ w2) (hts _ w3) (hts _ w4) (by rw [hR]; exact hr) (by rw [hR]; exact hr2) (by omega) (by omega) hd (k H locs ls cells slots g1 g2 hW hS hl)
theorem r_min (hB : BB X D cy b y cc nL ret rm) {idx : Nat} {own : String} {x z : Int32} (ho : y.cls = own) (w1 : Cond.methodLink own idx Lib.Math.min.name ∈ GW) (w2 : Cond.static Lib.Math.min.name ∈ GW) (w3 : Cond.initialized "java/lang/Math" ∈ GW) (w4 : Cond.code Lib.Math.min.name Lib.Math.min.code 2 (some .int) ∈ GW) (hd : decode cc pc = .ok (.invokestatic idx, 3)) (hr : 1 ≤ rm.frames) (hr2 : (st.map fun v => v.category).sum + 13 ≤ rm.locals)
    (k : WW X D cy b r μ' nL kc ks (pc + 3) lv (.int (mnI x z) :: st) μ) : WW X D cy b r μ' nL kc ks pc lv (.int z :: .int x :: st) μ := by
  subst ho
  intro H locs ls cells slots g1 g2 hW hS hl
  have hts := hB.2.2.2.2.1
  have hR : xR X = rm := hB.2.2.2.2.2.2.2.2.2.2.1
  exact va_mmin hB.1 hB.2.1 (by rw [hB.2.2.1]; exact hl.1.symm) hB.2.2.2.1 (hts _ w1) (hts _ w2) (hts _ w3) (hts _ w4) (by rw [hR]; exact hr) (by rw [hR]; exact hr2) (by omega) (by omega) hd (k H locs ls cells slots g1 g2 hW hS hl)
theorem r_abs (hB : BB X D cy b y cc nL ret rm) {idx : Nat} {own : String} {x : Int32} (ho : y.cls = own) (w1 : Cond.methodLink own idx Lib.Math.abs.name ∈ GW) (w2 : Cond.static Lib.Math.abs.name ∈ GW) (w3 : Cond.initialized "java/lang/Math" ∈ GW) (w4 : Cond.code Lib.Math.abs.name Lib.Math.abs.code 1 (some .int) ∈ GW) (hd : decode cc pc = .ok (.invokestatic idx, 3)) (hr : 1 ≤ rm.frames) (hr2 : (st.map fun v => v.category).sum + 13 ≤ rm.locals)
    (k : WW X D cy b r μ' nL kc ks (pc + 3) lv (.int (abI x) :: st) μ) : WW X D cy b r μ' nL kc ks pc lv (.int x :: st) μ := by
  subst ho
  intro H locs ls cells slots g1 g2 hW hS hl
  have hts := hB.2.2.2.2.1
  have hR : xR X = rm := hB.2.2.2.2.2.2.2.2.2.2.1
  exact va_mabs hB.1 hB.2.1 (by rw [hB.2.2.1]; exact hl.1.symm) hB.2.2.2.1 (hts _ w1) (hts _ w2) (hts _ w3) (hts _ w4) (by rw [hR]; exact hr) (by rw [hR]; exact hr2) (by omega) (by omega) hd (k H locs ls cells slots g1 g2 hW hS hl)
-- returns
theorem va_S.end {X : BX} {b : Nat} {H : Heap} {locs : List Loc} {t : State} (hS : va_S (fun q => b ≤ q) (xs X).heap H locs) (ht : t.heap = H) : va_F (fun q => b ≤ q) (xs X) t := hS.F ht
theorem r_iret (hB : BB X D cy b y cc nL (some .int) rm) {v : Int32} (hd : decode cc pc = .ok (.ireturn, 1)) : WW X D cy b (some (.int v)) μ nL kc ks pc lv [.int v] μ := by
  intro H locs ls cells slots g1 g2 hW hS hl
  refine W.widen (k := (xR X).cells) (n := (xR X).slots) (by omega) (by omega) ?_
  exact W.iret hB.1 hB.2.1 hB.2.2.2.2.2.2.1 (fun t ht hw => ⟨rfl, by rw [ht]; exact hW, hS.F ht⟩) hS.2.2 hd hB.2.2.2.2.2.1
theorem r_zret (hB : BB X D cy b y cc nL (some .boolean) rm) {v : Int32} (hv : v = 0 ∨ v = 1) (hd : decode cc pc = .ok (.ireturn, 1)) : WW X D cy b (some (.int v)) μ nL kc ks pc lv [.int v] μ := by
  intro H locs ls cells slots g1 g2 hW hS hl
  refine W.widen (k := (xR X).cells) (n := (xR X).slots) (by omega) (by omega) ?_
  exact W.zret hB.1 hB.2.1 hB.2.2.2.2.2.2.1 (by rcases hv with rfl | rfl <;> rfl) (fun t ht hw => ⟨rfl, by rw [ht]; exact hW, hS.F ht⟩) hS.2.2 hd hB.2.2.2.2.2.1
theorem r_cret (hB : BB X D cy b y cc nL (some .char) rm) {v : Int32} (hv : v.toUInt32.toUInt16.toUInt32.toInt32 = v) (hd : decode cc pc = .ok (.ireturn, 1)) : WW X D cy b (some (.int v)) μ nL kc ks pc lv [.int v] μ := by
  intro H locs ls cells slots g1 g2 hW hS hl
  refine W.widen (k := (xR X).cells) (n := (xR X).slots) (by omega) (by omega) ?_
  exact W.zret hB.1 hB.2.1 hB.2.2.2.2.2.2.1 (by show Value.int _ = _; rw [hv]) (fun t ht hw => ⟨rfl, by rw [ht]; exact hW, hS.F ht⟩) hS.2.2 hd hB.2.2.2.2.2.1
theorem r_lret (hB : BB X D cy b y cc nL (some .long) rm) {v : Int64} (hd : decode cc pc = .ok (.lreturn, 1)) : WW X D cy b (some (.long v)) μ nL kc ks pc lv [.long v] μ := by
  intro H locs ls cells slots g1 g2 hW hS hl
  refine W.widen (k := (xR X).cells) (n := (xR X).slots) (by omega) (by omega) ?_
  exact W.lret hB.1 hB.2.1 hB.2.2.2.2.2.2.1 (fun t ht hw => ⟨rfl, by rw [ht]; exact hW, hS.F ht⟩) hS.2.2 hd hB.2.2.2.2.2.1
theorem r_aret {C : String} (hB : BB X D cy b y cc nL (some (.object C)) rm) {a : Nat} (hd : decode cc pc = .ok (.areturn, 1)) : WW X D cy b (some (.ref (b + a))) μ nL kc ks pc lv [.ref (b + a)] μ := by
  intro H locs ls cells slots g1 g2 hW hS hl
  refine W.widen (k := (xR X).cells) (n := (xR X).slots) (by omega) (by omega) ?_
  exact W.aret hB.1 hB.2.1 hB.2.2.2.2.2.2.1 (Or.inl ⟨_, rfl⟩) (Or.inr ⟨_, rfl⟩) (fun t ht hw => ⟨rfl, by rw [ht]; exact hW, hS.F ht⟩) hS.2.2 hd hB.2.2.2.2.2.1
theorem r_vret (hB : BB X D cy b y cc nL none rm) (hd : decode cc pc = .ok (.return_, 1)) : WW X D cy b none μ nL kc ks pc lv [] μ := by
  intro H locs ls cells slots g1 g2 hW hS hl
  refine W.widen (k := (xR X).cells) (n := (xR X).slots) (by omega) (by omega) ?_
  exact W.vret hB.1 hB.2.1 hB.2.2.2.2.2.2.1 (fun t ht hw => ⟨rfl, by rw [ht]; exact hW, hS.F ht⟩) hS.2.2 hd hB.2.2.2.2.2.1
end Calls
