/-! THE CONSTRUCTORS: a memory told by lists, and rows over it. -/
abbrev LMm : Type := List (Nat × Nat) × List (Nat × Nat × Int32) × List (Nat × Nat × Nat)
def lkI : List (Nat × Nat × Int32) → Nat → Nat → Int32
  | [] => fun _ _ => 0
  | e :: r => up2 (lkI r) e.1 e.2.1 e.2.2
def lkR : List (Nat × Nat × Nat) → Nat → Nat → Option Nat
  | [] => fun _ _ => none
  | e :: r => up2 (lkR r) e.1 e.2.1 (some e.2.2)
def mkM (s : LMm) : MS := (s.1, lkI s.2.1, (fun _ _ => 0), lkR s.2.2)
def okL (s : LMm) : Bool := s.2.1.all (fun e => decide (e.1 < s.1.length)) && s.2.2.all (fun e => decide (e.1 < s.1.length))
theorem lkI_0 {n : Nat} : ∀ (L : List (Nat × Nat × Int32)), (∀ e ∈ L, e.1 < n) → ∀ k, n ≤ k → lkI L k = fun _ => 0
  | [], _, _, _ => rfl
  | e :: r, h, k, hk => by
    have h1 := h e List.mem_cons_self
    have ih := lkI_0 r (fun x hx => h x (List.mem_cons_of_mem _ hx)) k hk
    funext j
    show up2 (lkI r) e.1 e.2.1 e.2.2 k j = 0
    unfold up2
    rw [if_neg (by omega), ih]
theorem lkR_0 {n : Nat} : ∀ (L : List (Nat × Nat × Nat)), (∀ e ∈ L, e.1 < n) → ∀ k, n ≤ k → lkR L k = fun _ => none
  | [], _, _, _ => rfl
  | e :: r, h, k, hk => by
    have h1 := h e List.mem_cons_self
    have ih := lkR_0 r (fun x hx => h x (List.mem_cons_of_mem _ hx)) k hk
    funext j
    show up2 (lkR r) e.1 e.2.1 (some e.2.2) k j = none
    unfold up2
    rw [if_neg (by omega), ih]
theorem okL_s {s : LMm} (h : okL s = true) : (∀ e ∈ s.2.1, e.1 < s.1.length) ∧ ∀ e ∈ s.2.2, e.1 < s.1.length := by
  unfold okL at h
  rw [Bool.and_eq_true, List.all_eq_true, List.all_eq_true] at h
  exact ⟨fun e he => of_decide_eq_true (h.1 e he), fun e he => of_decide_eq_true (h.2 e he)⟩
theorem fresh_mk {s : LMm} (h : okL s = true) (g : Nat × Nat) : fresh (mkM s) g = mkM (s.1 ++ [g], s.2) := by
  obtain ⟨h1, h2⟩ := okL_s h
  have e1 : (fun k => if k = s.1.length then (fun _ => 0) else lkI s.2.1 k) = lkI s.2.1 := by
    funext k
    by_cases hk : k = s.1.length
    · rw [if_pos hk, lkI_0 s.2.1 h1 k (by omega)]
    · rw [if_neg hk]
  have e2 : (fun k => if k = s.1.length then (fun _ => none) else lkR s.2.2 k) = lkR s.2.2 := by
    funext k
    by_cases hk : k = s.1.length
    · rw [if_pos hk, lkR_0 s.2.2 h2 k (by omega)]
    · rw [if_neg hk]
  have e3 : (fun k : Nat => if k = s.1.length then (fun _ : Nat => (0 : Int64)) else (fun _ _ : Nat => (0 : Int64)) k) = fun _ _ => 0 := by
    funext k
    split <;> rfl
  show (s.1 ++ [g], (fun k => if k = s.1.length then (fun _ => 0) else lkI s.2.1 k), (fun k => if k = s.1.length then (fun _ => 0) else (fun _ _ => 0) k), (fun k => if k = s.1.length then (fun _ => none) else lkR s.2.2 k)) = (s.1 ++ [g], lkI s.2.1, (fun _ _ => 0), lkR s.2.2)
  rw [e1, e2, e3]
def nO1 (s : LMm) (c : Nat) : Option (Nat × LMm) := if okL s = true then some (s.1.length, (s.1 ++ [(c, 0)], s.2)) else none
def nA1 (s : LMm) (t n : Nat) : Option (Nat × LMm) := if okL s = true then some (s.1.length, (s.1 ++ [(t, n)], s.2)) else none
def pI1 (s : LMm) (c a j : Nat) (x : Int32) : Option LMm := if s.1[a]? = some (c, 0) then some (s.1, (a, j, x) :: s.2.1, s.2.2) else none
def pR1 (s : LMm) (c a j x : Nat) : Option LMm := if s.1[a]? = some (c, 0) then some (s.1, s.2.1, (a, j, x) :: s.2.2) else none
def gR1 (s : LMm) (c a j : Nat) : Option Nat := if s.1[a]? = some (c, 0) then lkR s.2.2 a j else none
def sI1 (s : LMm) (t a : Nat) (i x : Int32) : Option LMm := (ix (mkM s) t a i).map (fun k => (s.1, (a, k, nrw t x) :: s.2.1, s.2.2))
def sR1 (s : LMm) (t c a : Nat) (i : Int32) (q : Nat) : Option LMm := if s.1[q]? = some (c, 0) then (ix (mkM s) t a i).map (fun k => (s.1, s.2.1, (a, k, q) :: s.2.2)) else none
theorem pI1_e {s z : LMm} {c a j : Nat} {x : Int32} (h : pI1 s c a j x = some z) : pI (mkM s) c a j x = some (mkM z) := by
  unfold pI1 at h
  split at h
  · rename_i hc
    cases h
    unfold pI
    rw [if_pos (show (mkM s).1[a]? = some (c, 0) from hc)]; rfl
  · cases h
theorem pR1_e {s z : LMm} {c a j x : Nat} (h : pR1 s c a j x = some z) : pR (mkM s) c a j x = some (mkM z) := by
  unfold pR1 at h
  split at h
  · rename_i hc
    cases h
    unfold pR
    rw [if_pos (show (mkM s).1[a]? = some (c, 0) from hc)]; rfl
  · cases h
theorem sI1_e {s z : LMm} {t a : Nat} {i x : Int32} (h : sI1 s t a i x = some z) : sI (mkM s) t a i x = some (mkM z) := by
  unfold sI1 at h
  unfold sI
  cases hx : ix (mkM s) t a i with
  | none => rw [hx] at h; cases h
  | some k => rw [hx] at h; cases h; rfl
theorem sR1_e {s z : LMm} {t c a q : Nat} {i : Int32} (h : sR1 s t c a i q = some z) : sR (mkM s) t c a i q = some (mkM z) := by
  unfold sR1 at h
  unfold sR
  split at h
  · rename_i hc
    rw [if_pos (show (mkM s).1[q]? = some (c, 0) from hc)]
    cases hx : ix (mkM s) t a i with
    | none => rw [hx] at h; cases h
    | some k => rw [hx] at h; cases h; rfl
  · cases h
section Lists
variable {X : BX} {D : va_G} {cy : Nat → ClassId} {b : Nat} {y : MethodName} {cc : ByteArray} {nL : Nat} {ret : Option FieldType} {rm : Room} {r : Option Value} {μ' : MS} {kc ks pc : Nat} {lv : List (Nat × Value)} {st : List Value} {s : LMm}
theorem q_new (hB : BB X D cy b y cc nL ret rm) {α : Type} {K : Nat × LMm → Option α} {R : α} {ci idx : Nat} {C own : String} {T : u_T} {N : Nat} {ty : Nat → FieldType} (cf : CF ci C T N ty) (h9 : ∀ j, j < N → okT (ty j) = true) (ho : y.cls = own) (w1 : Cond.classLink own idx C ∈ GW) (w2 : Cond.instantiable C N ∈ GW) (w3 : Cond.initialized C ∈ GW) (hd : decode cc pc = .ok (.new idx, 3))
    (hf : (nO1 s ci).bind K = some R) (k : ∀ q, K q = some R → WW X D cy b r μ' nL kc ks (pc + 3) lv (.ref (b + q.1) :: st) (mkM q.2)) : WW X D cy b r μ' nL (kc + 1) (ks + N) pc lv st (mkM s) := by
  obtain ⟨q, hq, hk⟩ := bind_inv hf
  unfold nO1 at hq
  split at hq
  case isFalse => cases hq
  rename_i ok
  cases hq
  refine r_new (K := some) (R := nO (mkM s) ci) hB cf h9 ho w1 w2 w3 hd rfl (fun _ => ?_)
  rw [fresh_mk ok]
  exact k _ hk
theorem q_newA (hB : BB X D cy b y cc nL ret rm) {α : Type} {K : Nat × LMm → Option α} {R : α} {t N : Nat} {at_ : ArrayType} {n : Int32} (hty : (t = 15 ∧ at_ = .int) ∨ (t = 14 ∧ at_ = .char) ∨ (t = 15 ∧ at_ = .int) ∨ (t = 16 ∧ at_ = .long) ∨ (t = 15 ∧ at_ = .int)) (w1 : Cond.arrayClass (newarray.typeOf at_) ∈ GW) (h0 : ¬ n < 0) (hN : n.toNatClampNeg = N) (hbig : N ≤ 60000) (hd : decode cc pc = .ok (.newarray at_, 2))
    (hf : (nA1 s t N).bind K = some R) (k : ∀ q, K q = some R → WW X D cy b r μ' nL kc ks (pc + 2) lv (.ref (b + q.1) :: st) (mkM q.2)) : WW X D cy b r μ' nL (kc + 1) (ks + N) pc lv (.int n :: st) (mkM s) := by
  obtain ⟨q, hq, hk⟩ := bind_inv hf
  unfold nA1 at hq
  split at hq
  case isFalse => cases hq
  rename_i ok
  cases hq
  refine r_newA (K := some) (R := nA (mkM s) t N) hB hty w1 h0 hN hbig hd rfl (fun _ => ?_)
  rw [fresh_mk ok]
  exact k _ hk
theorem q_newR (hB : BB X D cy b y cc nL ret rm) {α : Type} {K : Nat × LMm → Option α} {R : α} {t N idx : Nat} {C own : String} (ht : rkd t C) {n : Int32} (ho : y.cls = own) (w1 : Cond.classLink own idx C ∈ GW) (h0 : ¬ n < 0) (hN : n.toNatClampNeg = N) (hbig : N ≤ 60000) (hd : decode cc pc = .ok (.anewarray idx, 3))
    (hf : (nA1 s t N).bind K = some R) (k : ∀ q, K q = some R → WW X D cy b r μ' nL kc ks (pc + 3) lv (.ref (b + q.1) :: st) (mkM q.2)) : WW X D cy b r μ' nL (kc + 1) (ks + N) pc lv (.int n :: st) (mkM s) := by
  obtain ⟨q, hq, hk⟩ := bind_inv hf
  unfold nA1 at hq
  split at hq
  case isFalse => cases hq
  rename_i ok
  cases hq
  refine r_newR (K := some) (R := nA (mkM s) t N) hB ht ho w1 h0 hN hbig hd rfl (fun _ => ?_)
  rw [fresh_mk ok]
  exact k _ hk
theorem q_pI (hB : BB X D cy b y cc nL ret rm) {α : Type} {K : LMm → Option α} {R : α} {ci a idx : Nat} {C own : String} {T : u_T} {N : Nat} {ty : Nat → FieldType} (cf : CF ci C T N ty) (j : Nat) (hj : j < N) (ho : y.cls = own) (lk : FLk own idx (T j).1 (T j).2.1 (T j).2.2.1) (hfin : Fin T j y own idx) (ht : ty j = .int) (hd : decode cc pc = .ok (.putfield idx, 3)) {x : Int32}
    (hf : (pI1 s ci a j x).bind K = some R) (k : ∀ s1, K s1 = some R → WW X D cy b r μ' nL kc ks (pc + 3) lv st (mkM s1)) : WW X D cy b r μ' nL kc ks pc lv (.int x :: .ref (b + a) :: st) (mkM s) := by
  obtain ⟨q, hq, hk⟩ := bind_inv hf
  exact r_pI (K := some) (R := mkM q) hB cf j hj ho lk hfin ht hd (by rw [pI1_e hq]; rfl) (fun w hw => by cases hw; exact k q hk)
theorem q_pR (hB : BB X D cy b y cc nL ret rm) {α : Type} {K : LMm → Option α} {R : α} {ci a idx : Nat} {C own : String} {T : u_T} {N : Nat} {ty : Nat → FieldType} (cf : CF ci C T N ty) (j : Nat) (hj : j < N) (ho : y.cls = own) (lk : FLk own idx (T j).1 (T j).2.1 (T j).2.2.1) (hfin : Fin T j y own idx) (ht : isRt (ty j) = true) (hd : decode cc pc = .ok (.putfield idx, 3)) {x : Nat}
    (hf : (pR1 s ci a j x).bind K = some R) (k : ∀ s1, K s1 = some R → WW X D cy b r μ' nL kc ks (pc + 3) lv st (mkM s1)) : WW X D cy b r μ' nL kc ks pc lv (.ref (b + x) :: .ref (b + a) :: st) (mkM s) := by
  obtain ⟨q, hq, hk⟩ := bind_inv hf
  exact r_pR (K := some) (R := mkM q) hB cf j hj ho lk hfin ht hd (by rw [pR1_e hq]; rfl) (fun w hw => by cases hw; exact k q hk)
theorem q_gR (hB : BB X D cy b y cc nL ret rm) {α : Type} {K : Nat → Option α} {R : α} {ci a idx : Nat} {C own : String} {T : u_T} {N : Nat} {ty : Nat → FieldType} (cf : CF ci C T N ty) (j : Nat) (hj : j < N) (ho : y.cls = own) (lk : FLk own idx (T j).1 (T j).2.1 (T j).2.2.1) (ht : isRt (ty j) = true) (hd : decode cc pc = .ok (.getfield idx, 3))
    (hf : (gR1 s ci a j).bind K = some R) (k : ∀ x, K x = some R → WW X D cy b r μ' nL kc ks (pc + 3) lv (.ref (b + x) :: st) (mkM s)) : WW X D cy b r μ' nL kc ks pc lv (.ref (b + a) :: st) (mkM s) :=
  r_gR (K := K) (R := R) hB cf j hj ho lk ht hd hf k
theorem q_iast (hB : BB X D cy b y cc nL ret rm) {α : Type} {K : LMm → Option α} {R : α} {a : Nat} {i x : Int32} (hd : decode cc pc = .ok (.iastore, 1)) (hf : (sI1 s 15 a i x).bind K = some R) (k : ∀ s1, K s1 = some R → WW X D cy b r μ' nL kc ks (pc + 1) lv st (mkM s1)) : WW X D cy b r μ' nL kc ks pc lv (.int x :: .int i :: .ref (b + a) :: st) (mkM s) := by
  obtain ⟨q, hq, hk⟩ := bind_inv hf
  exact r_iast (K := some) (R := mkM q) hB hd (by rw [sI1_e hq]; rfl) (fun w hw => by cases hw; exact k q hk)
theorem q_aast (hB : BB X D cy b y cc nL ret rm) {α : Type} {K : LMm → Option α} {R : α} {a t ci q : Nat} {C : String} {T : u_T} {N : Nat} {ty : Nat → FieldType} (cf : CF ci C T N ty) (ht : rkd t C) {i : Int32} (hd : decode cc pc = .ok (.aastore, 1)) (hf : (sR1 s t ci a i q).bind K = some R) (k : ∀ s1, K s1 = some R → WW X D cy b r μ' nL kc ks (pc + 1) lv st (mkM s1)) : WW X D cy b r μ' nL kc ks pc lv (.ref (b + q) :: .int i :: .ref (b + a) :: st) (mkM s) := by
  obtain ⟨w, hq, hk⟩ := bind_inv hf
  exact r_aast (K := some) (R := mkM w) hB cf ht hd (by rw [sR1_e hq]; rfl) (fun v hv => by cases hv; exact k w hk)
theorem q_cI (hB : BB X D cy b y cc nL ret rm) {α : Type} {F : Option LMm} {K : LMm → Option α} {R : α} {y' : MethodName} {cc' : ByteArray} {nL' n : Nat} {rm' : Room} {idx : Nat} {own : String} {a : Nat} (As rest : List Value) {st0 : List Value}
    (ho : y.cls = own) (cm : CM y' cc' nL' none n) (hi : Cond.instanceMethod y' ∈ GW) (hy1 : y'.name = "<init>") (lk : MLk own idx y') (hroom : rm'.frames + 1 ≤ rm.frames ∧ 8 + (nL' + 11) + rm'.locals ≤ rm.locals) (hn : As.length = n) (hrest : (rest.map fun v => v.category).sum ≤ 8)
    (hd : decode cc pc = .ok (.invokespecial idx, 3)) (hM : ∀ z, F = some z → Met (xl X) y' (.code y' cc' nL' none :: GW) rm' (Pw D cy b (.ref (b + a) :: As) (mkM s)) (Qw D cy b none (mkM z)) rm'.cells rm'.slots (fun q => b ≤ q)) (hst0 : st0 = As.reverse ++ .ref (b + a) :: rest) (hf : F.bind K = some R)
    (k : ∀ z, K z = some R → WW X D cy b r μ' nL kc ks (pc + 3) lv rest (mkM z)) : WW X D cy b r μ' nL (kc + rm'.cells) (ks + rm'.slots) pc lv st0 (mkM s) := by
  obtain ⟨z, hz, hk⟩ := bind_inv hf
  exact r_cI (F := some (mkM z)) (K := some) (R := mkM z) hB As rest ho cm hi hy1 lk hroom hn hrest hd (fun w hw => by cases hw; exact hM z hz) hst0 rfl (fun w hw => by cases hw; exact k z hk)
end Lists
