/-! ROWS over the memory: fields, arrays, new cells -/
/-- a class: its place, name, fields, how many, their types, as the tables have it -/
def CF (ci : Nat) (C : String) (T : u_T) (N : Nat) (ty : Nat → FieldType) : Prop :=
  vwCl[ci]? = some (C, T, N) ∧ ci < 13 ∧ clN ci = N ∧ clT ci = ty ∧ (∀ w ∈ u_ws C T N, w ∈ GW) ∧ (∀ k, k < N → parseFieldDescriptor (T k).2.2.1 = some (ty k)) ∧ (∀ a, a < N → ∀ b, b < N → a ≠ b → (T a).2.1 ≠ (T b).2.1)
theorem me_obj {b : Nat} {cy : Nat → ClassId} {μ : MS} {k ci : Nat} (h : ci < 13) : me b cy μ k (ci, 0) = .inr (ci, (List.range (clN ci)).map (fun j => mv b μ (clT ci j) k j)) := by
  simp [me, h]
def isIt : FieldType → Bool
  | .int => true
  | .boolean => true
  | .char => true
  | .byte => true
  | .short => true
  | _ => false
def isRt : FieldType → Bool
  | .object _ => true
  | .array _ => true
  | _ => false
theorem mv_I {b : Nat} {μ : MS} {ty : FieldType} {k j : Nat} (h : isIt ty = true) : mv b μ ty k j = .int (μ.2.1 k j) := by
  cases ty <;> first | rfl | (simp [isIt] at h)
theorem mv_R {b : Nat} {μ : MS} {ty : FieldType} {k j : Nat} (h : isRt ty = true) : mv b μ ty k j = va_rf ((μ.2.2.2 k j).map (b + ·)) := by
  cases ty <;> first | rfl | (simp [isRt] at h)
theorem me_other {b : Nat} {cy : Nat → ClassId} {μ μ' : MS} {k : Nat} {h : Nat × Nat} (h1 : μ'.2.1 k = μ.2.1 k) (h2 : μ'.2.2.1 k = μ.2.2.1 k) (h3 : μ'.2.2.2 k = μ.2.2.2 k) : me b cy μ' k h = me b cy μ k h := by
  have hm : ∀ (ty : FieldType) (j : Nat), mv b μ' ty k j = mv b μ ty k j := by
    intro ty j
    cases ty <;> simp [mv, h1, h2, h3]
  simp only [me, h1, h2, h3, hm]
/-- one cell of the memory is written -/
theorem Wd.put {D : va_G} {cy : Nat → ClassId} {b : Nat} {μ μ' : MS} {H H1 : Heap} {a : Nat} {h : Nat × Nat} (hW : Wd D cy b μ H) (ha : μ.1[a]? = some h) (e1 : μ'.1 = μ.1) (eo : ∀ k, k ≠ a → μ'.2.1 k = μ.2.1 k ∧ μ'.2.2.1 k = μ.2.2.1 k ∧ μ'.2.2.2 k = μ.2.2.2 k)
    (hz : H1.size = H.size) (oq : ∀ q : Nat, q ≠ b + a → H1[q]? = H[q]?) (hn : va_at D vwCl (b + a, me b cy μ' a h) H1) : Wd D cy b μ' H1 := by
  refine ⟨by rw [hz, hW.1, e1], fun k g hk => ?_⟩
  rw [e1] at hk
  by_cases hka : k = a
  · subst hka
    cases ha.symm.trans hk
    exact hn
  · obtain ⟨o1, o2, o3⟩ := eo k hka
    rw [me_other o1 o2 o3]
    exact (hW.2 k g hk).kept (oq _ (by intro e; exact hka (by omega)))
section Mem
variable {X : BX} {D : va_G} {cy : Nat → ClassId} {b : Nat} {y : MethodName} {cc : ByteArray} {nL : Nat} {ret : Option FieldType} {rm : Room} {r : Option Value} {μ μ' : MS} {kc ks pc : Nat} {lv : List (Nat × Value)} {st : List Value}
/-- where a class's field is read: own, or of a nest mate -/
def FLk (own : String) (idx : Nat) (ref name desc : String) : Prop := Cond.fieldLink own idx ref name desc ∈ GW ∨ ∃ host, Cond.fieldLinkNest own idx ref name desc host ∈ lw_tbl
theorem get_row (hB : BB X D cy b y cc nL ret rm) {ci a idx : Nat} {C own : String} {T : u_T} {N : Nat} {ty : Nat → FieldType} (cf : CF ci C T N ty) (j : Nat) (hj : j < N) (ho : y.cls = own) (lk : FLk own idx (T j).1 (T j).2.1 (T j).2.2.1) (hd : decode cc pc = .ok (.getfield idx, 3)) (ha : μ.1[a]? = some (ci, 0))
    (k : WW X D cy b r μ' nL kc ks (pc + 3) lv (mv b μ (ty j) a j :: st) μ) : WW X D cy b r μ' nL kc ks pc lv (.ref (b + a) :: st) μ := by
  obtain ⟨hc, h13, hN, hT, hws, htok, hnm⟩ := cf
  subst ho
  intro H locs ls cells slots g1 g2 hW hS hl
  have hat := hW.2 a _ ha
  rw [me_obj h13] at hat
  have hP : va_P D vwCl [(b + a, .inr (ci, (List.range (clN ci)).map (fun j => mv b μ (clT ci j) a j)))] H := by
    intro k q hq
    have : k < 1 := (List.getElem?_eq_some_iff.mp hq).1
    have hk0 : k = 0 := by omega
    subst hk0
    cases hq
    exact hat
  have hv : ((List.range (clN ci)).map (fun j => mv b μ (clT ci j) a j))[j]? = some (mv b μ (ty j) a j) := by
    rw [List.getElem?_map, List.getElem?_range (by rw [hN]; exact hj), hT]
    rfl
  rcases lk with lk | ⟨host, lk⟩
  · exact va_get (D := D) hB.1 hB.2.1 hB.2.2.2.2.1 hws hB.2.2.2.1 hB.2.2.2.2.2.2.2.1 hP 0 rfl hc j hj (hB.2.2.2.2.1 _ lk) (fun _ h9 => h9) hv hd (k H locs ls cells slots g1 g2 hW hS hl)
  · exact va_getN (D := D) (host := host) hB.1 hB.2.1 hB.2.2.2.2.1 hws hB.2.2.2.1 hB.2.2.2.2.2.2.2.1 hP 0 rfl hc j hj (va_Nw.use rfl (hB.2.2.2.2.2.2.2.2.1.1 _ lk rfl)) (fun _ h9 => h9) hv hd (k H locs ls cells slots g1 g2 hW hS hl)
theorem r_gI (hB : BB X D cy b y cc nL ret rm) {α : Type} {K : Int32 → Option α} {R : α} {ci a idx : Nat} {C own : String} {T : u_T} {N : Nat} {ty : Nat → FieldType} (cf : CF ci C T N ty) (j : Nat) (hj : j < N) (ho : y.cls = own) (lk : FLk own idx (T j).1 (T j).2.1 (T j).2.2.1) (ht : isIt (ty j) = true) (hd : decode cc pc = .ok (.getfield idx, 3))
    (hf : (gI μ ci a j).bind K = some R) (k : ∀ x, K x = some R → WW X D cy b r μ' nL kc ks (pc + 3) lv (.int x :: st) μ) : WW X D cy b r μ' nL kc ks pc lv (.ref (b + a) :: st) μ := by
  by_cases ha : μ.1[a]? = some (ci, 0)
  · simp only [gI, if_pos ha, Option.bind_some] at hf
    refine get_row hB cf j hj ho lk hd ha ?_
    rw [mv_I ht]
    exact k _ hf
  · simp [gI, ha] at hf
theorem r_gL (hB : BB X D cy b y cc nL ret rm) {α : Type} {K : Int64 → Option α} {R : α} {ci a idx : Nat} {C own : String} {T : u_T} {N : Nat} {ty : Nat → FieldType} (cf : CF ci C T N ty) (j : Nat) (hj : j < N) (ho : y.cls = own) (lk : FLk own idx (T j).1 (T j).2.1 (T j).2.2.1) (ht : ty j = .long) (hd : decode cc pc = .ok (.getfield idx, 3))
    (hf : (gL μ ci a j).bind K = some R) (k : ∀ x, K x = some R → WW X D cy b r μ' nL kc ks (pc + 3) lv (.long x :: st) μ) : WW X D cy b r μ' nL kc ks pc lv (.ref (b + a) :: st) μ := by
  by_cases ha : μ.1[a]? = some (ci, 0)
  · simp only [gL, if_pos ha, Option.bind_some] at hf
    refine get_row hB cf j hj ho lk hd ha ?_
    rw [ht]
    exact k _ hf
  · simp [gL, ha] at hf
theorem r_gR (hB : BB X D cy b y cc nL ret rm) {α : Type} {K : Nat → Option α} {R : α} {ci a idx : Nat} {C own : String} {T : u_T} {N : Nat} {ty : Nat → FieldType} (cf : CF ci C T N ty) (j : Nat) (hj : j < N) (ho : y.cls = own) (lk : FLk own idx (T j).1 (T j).2.1 (T j).2.2.1) (ht : isRt (ty j) = true) (hd : decode cc pc = .ok (.getfield idx, 3))
    (hf : (gR μ ci a j).bind K = some R) (k : ∀ x, K x = some R → WW X D cy b r μ' nL kc ks (pc + 3) lv (.ref (b + x) :: st) μ) : WW X D cy b r μ' nL kc ks pc lv (.ref (b + a) :: st) μ := by
  by_cases ha : μ.1[a]? = some (ci, 0)
  · simp only [gR, if_pos ha] at hf
    cases hv : μ.2.2.2 a j with
    | none => simp [hv] at hf
    | some x =>
      rw [hv] at hf
      refine get_row hB cf j hj ho lk hd ha ?_
      rw [mv_R ht, hv]
      exact k x hf
  · simp [gR, ha] at hf
/-- a field is written: not final, or final in the class's own constructor -/
theorem put_row (hB : BB X D cy b y cc nL ret rm) {ci a idx : Nat} {C own : String} {T : u_T} {N : Nat} {ty : Nat → FieldType} (cf : CF ci C T N ty) (j : Nat) (hj : j < N) (ho : y.cls = own) (lk : FLk own idx (T j).1 (T j).2.1 (T j).2.2.1) (hfin : (T j).2.2.2 = false ∨ ((T j).2.2.2 = true ∧ y.name = "<init>" ∧ (T j).1 = own ∧ Cond.fieldLink own idx (T j).1 (T j).2.1 (T j).2.2.1 ∈ GW)) {v : Value} (hnv : narrow (ty j) v = v) (hfit : fits (ty j) v = true) (hd : decode cc pc = .ok (.putfield idx, 3)) (ha : μ.1[a]? = some (ci, 0)) {μ1 : MS}
    (e1 : μ1.1 = μ.1) (eo : ∀ k, k ≠ a → μ1.2.1 k = μ.2.1 k ∧ μ1.2.2.1 k = μ.2.2.1 k ∧ μ1.2.2.2 k = μ.2.2.2 k) (ev : ∀ i, i < N → i ≠ j → mv b μ1 (ty i) a i = mv b μ (ty i) a i) (ej : mv b μ1 (ty j) a j = v)
    (k : WW X D cy b r μ' nL kc ks (pc + 3) lv st μ1) : WW X D cy b r μ' nL kc ks pc lv (v :: .ref (b + a) :: st) μ := by
  obtain ⟨hc, h13, hN, hT, hws, htok, hnm⟩ := cf
  subst ho
  intro H locs ls cells slots g1 g2 hW hS hl
  have hat := hW.2 a _ ha
  rw [me_obj h13] at hat
  have hts := hB.2.2.2.2.1
  have hK := hB.2.2.2.2.2.2.2.1
  have hap := va_apart (own := y.cls) hts hws ty htok hnm hK hc
  obtain ⟨r0, h1, cell, q1, q2, q3, q4⟩ := hat
  have hr : r0 = (C, T, N) := Option.some.inj (h1.symm.trans hc)
  subst hr
  obtain ⟨hSl, hfc, kC, hkC, hkind⟩ := hK.1 ci _ hc
  obtain ⟨cf, kf, fi, f, hi, hsl⟩ := hSl j hj
  have hst := (u_facts hfc hkC (u_lays hts hws hj) hi).1
  have hlay := hts _ (hws _ (u_in_lay hj))
  unfold u_lay at hlay
  have hlen : j < ((List.range (clN ci)).map (fun i => mv b μ (clT ci i) a i)).length := by simp [hN, hj]
  have fin : ∀ H' : Heap, H'[b + a]? = some (cell.setSlot (D.2 ci j) v) → H'.size = H.size → (∀ q, q ≠ b + a → H'[q]? = H[q]?) → Wd D cy b μ1 H' := by
    intro H' e2 e3 e4
    refine hW.put ha e1 eo e3 e4 ?_
    rw [me_obj h13]
    refine ⟨_, hc, t_OB.to (V := updV (vp_V ((List.range (clN ci)).map (fun i => mv b μ (clT ci i) a i))) j v) ⟨_, e2, q2, q3, t_set q4 hap hj v⟩ (fun i hi' => ?_)⟩
    have hi2 : i < N := hi'
    have hg : ∀ μ2 : MS, vp_V ((List.range (clN ci)).map (fun i => mv b μ2 (clT ci i) a i)) i = mv b μ2 (ty i) a i := by
      intro μ2
      simp [vp_V, List.getD_eq_getElem?_getD, List.getElem?_map, List.getElem?_range (show i < clN ci by rw [hN]; exact hi2), hT]
    rw [hg μ1]
    by_cases hij : i = j
    · subst hij
      simp [updV, ej]
    · simp only [updV, if_neg hij]
      rw [hg μ, ev i hi2 hij]
  have go : ∀ H' : Heap, H'[b + a]? = some (cell.setSlot (D.2 ci j) v) → H'.size = H.size → (∀ q, q ≠ b + a → H'[q]? = H[q]?) → W (xp X) (xl X) (xe X) (xR X) (xs X) (xm X) (xa X) (xw X) (xM X) (xc X) H' (locs ++ [⟨b + a, D.2 ci j⟩]) cells slots (MQ (xw X) (Qw D cy b r μ') (xa X) (xs X) (xR X).cells (xR X).slots (fun q => b ≤ q)) (F0 (xm X) (pc + 3) ls st) :=
    fun H' e2 e3 e4 => k H' _ ls cells slots g1 g2 (fin H' e2 e3 e4) (hS.put e3 e4 (Nat.le_add_right b a)) hl
  rcases hfin with hfin | ⟨hfin, hin2, hdecl, lk2⟩
  · rw [if_neg (by rw [hfin]; decide)] at hlay
    have h6 := u_store hfc hkC hkind hlay hi (htok j hj) hnv hfit
    rcases lk with lk | ⟨host, lk⟩
    · refine W.putK hB.1 hB.2.1 (f := f) ⟨hB.2.2.2.1, hts _ lk, ⟨_, _, _, hi⟩, hst⟩ (by rw [q2]; exact h6) q1 q3 (by rw [hsl]; exact k2_hasslot (q4 j hj)) rfl rfl hd fun H' e2 e3 e4 => ?_
      rw [hsl] at e2 ⊢
      exact go H' e2 e3 e4
    · refine va_WputK hB.1 hB.2.1 (f := f) hB.2.2.2.1 (va_Nw.use rfl (hB.2.2.2.2.2.2.2.2.1.1 _ lk rfl)) hi hst (by rw [q2]; exact h6) q1 q3 (by rw [hsl]; exact k2_hasslot (q4 j hj)) rfl rfl hd fun H' e2 e3 e4 => ?_
      rw [hsl] at e2 ⊢
      exact go H' e2 e3 e4
  · rw [if_pos hfin] at hlay
    have hcf : (xm X).cls = cf := by
      obtain ⟨_, _, c', _, _, _, -, -, hf', -, -, -, hown2, -⟩ := Cond.laysFinal_spec hlay
      have e9 : c' = cf := by have := hi.symm.trans hf'; simp at this; exact this.1.symm
      rw [hdecl] at hown2
      rw [← e9]; exact Option.some.inj (hB.2.2.2.1.symm.trans hown2)
    have h6 := u_fits hfc hkC hkind (Or.inr hlay) hi (htok j hj) hnv hfit
    refine W.putFinK hB.1 hB.2.1 hB.2.2.2.1 (hts _ lk2) hi hst hcf (by rw [hB.2.2.2.2.2.2.2.2.2.2.2]; exact hin2) (by rw [q2]; exact h6) q1 q3 (by rw [hsl]; exact k2_hasslot (q4 j hj)) rfl rfl hd fun H' e2 e3 e4 => ?_
    rw [hsl] at e2 ⊢
    exact go H' e2 e3 e4
abbrev Fin (T : u_T) (j : Nat) (y : MethodName) (own : String) (idx : Nat) : Prop := (T j).2.2.2 = false ∨ ((T j).2.2.2 = true ∧ y.name = "<init>" ∧ (T j).1 = own ∧ Cond.fieldLink own idx (T j).1 (T j).2.1 (T j).2.2.1 ∈ GW)
theorem mv_uI {b : Nat} {μ : MS} {a j : Nat} {x : Int32} {ty : FieldType} {i : Nat} (h : i ≠ j) : mv b (uI μ a j x) ty a i = mv b μ ty a i := by
  cases ty <;> simp [mv, uI, up2, h]
theorem mv_uL {b : Nat} {μ : MS} {a j : Nat} {x : Int64} {ty : FieldType} {i : Nat} (h : i ≠ j) : mv b (uL μ a j x) ty a i = mv b μ ty a i := by
  cases ty <;> simp [mv, uL, up2, h]
theorem mv_uR {b : Nat} {μ : MS} {a j x : Nat} {ty : FieldType} {i : Nat} (h : i ≠ j) : mv b (uR μ a j x) ty a i = mv b μ ty a i := by
  cases ty <;> simp [mv, uR, up2, h]
theorem up2_row {α : Type} {f : Nat → Nat → α} {k j : Nat} {x : α} {k' : Nat} (h : k' ≠ k) : up2 f k j x k' = f k' := by
  funext j'; simp [up2, h]
theorem r_pI (hB : BB X D cy b y cc nL ret rm) {α : Type} {K : MS → Option α} {R : α} {ci a idx : Nat} {C own : String} {T : u_T} {N : Nat} {ty : Nat → FieldType} (cf : CF ci C T N ty) (j : Nat) (hj : j < N) (ho : y.cls = own) (lk : FLk own idx (T j).1 (T j).2.1 (T j).2.2.1) (hfin : Fin T j y own idx) (ht : ty j = .int) (hd : decode cc pc = .ok (.putfield idx, 3)) {x : Int32}
    (hf : (pI μ ci a j x).bind K = some R) (k : ∀ μ1, K μ1 = some R → WW X D cy b r μ' nL kc ks (pc + 3) lv st μ1) : WW X D cy b r μ' nL kc ks pc lv (.int x :: .ref (b + a) :: st) μ := by
  by_cases ha : μ.1[a]? = some (ci, 0)
  · simp only [pI, if_pos ha, Option.bind_some] at hf
    exact put_row hB cf j hj ho lk hfin (by rw [ht]; rfl) (by rw [ht]; rfl) hd ha (μ1 := uI μ a j x) rfl (fun k hk => ⟨up2_row hk, rfl, rfl⟩) (fun i _ hij => mv_uI hij) (by rw [ht]; simp [mv, uI, up2]) (k _ hf)
  · simp [pI, ha] at hf
theorem r_pZ (hB : BB X D cy b y cc nL ret rm) {α : Type} {K : MS → Option α} {R : α} {ci a idx : Nat} {C own : String} {T : u_T} {N : Nat} {ty : Nat → FieldType} (cf : CF ci C T N ty) (j : Nat) (hj : j < N) (ho : y.cls = own) (lk : FLk own idx (T j).1 (T j).2.1 (T j).2.2.1) (hfin : Fin T j y own idx) (ht : ty j = .boolean) (hd : decode cc pc = .ok (.putfield idx, 3)) {x : Int32}
    (hf : (pZ μ ci a j x).bind K = some R) (k : ∀ μ1, K μ1 = some R → WW X D cy b r μ' nL kc ks (pc + 3) lv st μ1) : WW X D cy b r μ' nL kc ks pc lv (.int x :: .ref (b + a) :: st) μ := by
  by_cases ha : μ.1[a]? = some (ci, 0) ∧ (x = 0 ∨ x = 1)
  · simp only [pZ, if_pos ha, Option.bind_some] at hf
    obtain ⟨ha, hx⟩ := ha
    exact put_row hB cf j hj ho lk hfin (by rw [ht]; rcases hx with rfl | rfl <;> rfl) (by rw [ht]; rcases hx with rfl | rfl <;> rfl) hd ha (μ1 := uI μ a j x) rfl (fun k hk => ⟨up2_row hk, rfl, rfl⟩) (fun i _ hij => mv_uI hij) (by rw [ht]; simp [mv, uI, up2]) (k _ hf)
  · simp [pZ, ha] at hf
theorem r_pL (hB : BB X D cy b y cc nL ret rm) {α : Type} {K : MS → Option α} {R : α} {ci a idx : Nat} {C own : String} {T : u_T} {N : Nat} {ty : Nat → FieldType} (cf : CF ci C T N ty) (j : Nat) (hj : j < N) (ho : y.cls = own) (lk : FLk own idx (T j).1 (T j).2.1 (T j).2.2.1) (hfin : Fin T j y own idx) (ht : ty j = .long) (hd : decode cc pc = .ok (.putfield idx, 3)) {x : Int64}
    (hf : (pL μ ci a j x).bind K = some R) (k : ∀ μ1, K μ1 = some R → WW X D cy b r μ' nL kc ks (pc + 3) lv st μ1) : WW X D cy b r μ' nL kc ks pc lv (.long x :: .ref (b + a) :: st) μ := by
  by_cases ha : μ.1[a]? = some (ci, 0)
  · simp only [pL, if_pos ha, Option.bind_some] at hf
    exact put_row hB cf j hj ho lk hfin (by rw [ht]; rfl) (by rw [ht]; rfl) hd ha (μ1 := uL μ a j x) rfl (fun k hk => ⟨rfl, up2_row hk, rfl⟩) (fun i _ hij => mv_uL hij) (by rw [ht]; simp [mv, uL, up2]) (k _ hf)
  · simp [pL, ha] at hf
theorem r_pR (hB : BB X D cy b y cc nL ret rm) {α : Type} {K : MS → Option α} {R : α} {ci a idx : Nat} {C own : String} {T : u_T} {N : Nat} {ty : Nat → FieldType} (cf : CF ci C T N ty) (j : Nat) (hj : j < N) (ho : y.cls = own) (lk : FLk own idx (T j).1 (T j).2.1 (T j).2.2.1) (hfin : Fin T j y own idx) (ht : isRt (ty j) = true) (hd : decode cc pc = .ok (.putfield idx, 3)) {x : Nat}
    (hf : (pR μ ci a j x).bind K = some R) (k : ∀ μ1, K μ1 = some R → WW X D cy b r μ' nL kc ks (pc + 3) lv st μ1) : WW X D cy b r μ' nL kc ks pc lv (.ref (b + x) :: .ref (b + a) :: st) μ := by
  by_cases ha : μ.1[a]? = some (ci, 0)
  · simp only [pR, if_pos ha, Option.bind_some] at hf
    exact put_row hB cf j hj ho lk hfin (by cases h9 : ty j <;> first | rfl | (rw [h9] at ht; simp [isRt] at ht)) (by cases h9 : ty j <;> first | rfl | (rw [h9] at ht; simp [isRt] at ht)) hd ha (μ1 := uR μ a j x) rfl (fun k hk => ⟨rfl, rfl, up2_row hk⟩) (fun i _ hij => mv_uR hij) (by rw [mv_R ht]; simp [uR, up2, va_rf]) (k _ hf)
  · simp [pR, ha] at hf
end Mem
