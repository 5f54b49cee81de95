/-! ROWS: arrays, new cells, returns, calls -/
theorem iok_of {i : Int32} {n : Nat} (h0 : 0 ≤ i) (h1 : i.toNatClampNeg < n) : vp_in i n := by
  intro h
  rcases h with h | h
  · exact absurd h (Int32.not_lt.mpr h0)
  · omega
theorem ix_some {μ : MS} {t a k : Nat} {i : Int32} (h : ix μ t a i = some k) : ∃ n, μ.1[a]? = some (t, n) ∧ vp_in i n ∧ k = i.toNatClampNeg ∧ k < n := by
  unfold ix at h
  split at h
  · rename_i t' n hh
    split at h
    · rename_i hc
      cases h
      exact ⟨n, by rw [hh, hc.1], iok_of hc.2.1 hc.2.2, rfl, hc.2.2⟩
    · cases h
  · cases h
theorem ix_eq {μ : MS} {t a n : Nat} {i : Int32} (ha : μ.1[a]? = some (t, n)) (h0 : 0 ≤ i) (h1 : i.toNatClampNeg < n) : ix μ t a i = some i.toNatClampNeg := by
  simp [ix, ha, h0, h1]
theorem ix_not {μ : MS} {t a n : Nat} {i : Int32} (ha : μ.1[a]? = some (t, n)) (h : ¬ (0 ≤ i ∧ i.toNatClampNeg < n)) : ix μ t a i = none := by
  simp only [ix, ha]
  rw [if_neg (fun q => h ⟨q.2.1, q.2.2⟩)]
def aty (t : Nat) : FieldType := if t = 13 then .byte else if t = 14 then .char else if t = 15 then .int else .boolean
theorem me_I {b : Nat} {cy : Nat → ClassId} {μ : MS} {k t n : Nat} (h : t = 13 ∨ t = 14 ∨ t = 15 ∨ t = 17) : me b cy μ k (t, n) = .inl (cy t, n, .inl (μ.2.1 k)) := by
  rcases h with rfl | rfl | rfl | rfl <;> rfl
theorem me_L {b : Nat} {cy : Nat → ClassId} {μ : MS} {k n : Nat} : me b cy μ k (16, n) = .inl (cy 16, n, .inr (.inl (μ.2.2.1 k))) := rfl
theorem me_R {b : Nat} {cy : Nat → ClassId} {μ : MS} {k t n : Nat} (h : t = 18 ∨ t = 19 ∨ t = 20) : me b cy μ k (t, n) = .inl (cy t, n, .inr (.inr (.inr (.inr (fun j => (μ.2.2.2 k j).map (b + ·)))))) := by
  rcases h with rfl | rfl | rfl <;> rfl
theorem va_P1 {D : va_G} {cl : List vw_C} {q : Nat × va_E} {H : Heap} (h : va_at D cl q H) : va_P D cl [q] H := by
  intro k x hx
  have : k < 1 := (List.getElem?_eq_some_iff.mp hx).1
  have hk0 : k = 0 := by omega
  subst hk0
  cases hx
  exact h
section Arr
variable {X : BX} {D : va_G} {cy : Nat → ClassId} {b : Nat} {y : MethodName} {cc : ByteArray} {nL : Nat} {ret : Option FieldType} {rm : Room} {r : Option Value} {μ μ' : MS} {kc ks pc : Nat} {lv : List (Nat × Value)} {st : List Value}
theorem r_iald (hB : BB X D cy b y cc nL ret rm) {α : Type} {K : Int32 → Option α} {R : α} {a : Nat} {i : Int32} (hd : decode cc pc = .ok (.iaload, 1)) (hf : (aI μ 15 a i).bind K = some R) (k : ∀ x, K x = some R → WW X D cy b r μ' nL kc ks (pc + 1) lv (.int x :: st) μ) : WW X D cy b r μ' nL kc ks pc lv (.int i :: .ref (b + a) :: st) μ := by
  cases hx : ix μ 15 a i with
  | none => simp [aI, hx] at hf
  | some q =>
    simp only [aI, hx, Option.map_some, Option.bind_some] at hf
    obtain ⟨n, ha, hin, rfl, -⟩ := ix_some hx
    intro H locs ls cells slots g1 g2 hW hS hl
    have hat := hW.2 a _ ha
    rw [me_I (by simp)] at hat
    exact va_iald (D := D) hB.1 hB.2.1 hB.2.2.2.2.2.2.2.1 (va_P1 hat) 0 2 rfl rfl hin hd (k _ hf H locs ls cells slots g1 g2 hW hS hl)
theorem r_cald (hB : BB X D cy b y cc nL ret rm) {α : Type} {K : Int32 → Option α} {R : α} {a : Nat} {i : Int32} (hd : decode cc pc = .ok (.caload, 1)) (hf : (aI μ 14 a i).bind K = some R) (k : ∀ x, K x = some R → WW X D cy b r μ' nL kc ks (pc + 1) lv (.int x :: st) μ) : WW X D cy b r μ' nL kc ks pc lv (.int i :: .ref (b + a) :: st) μ := by
  cases hx : ix μ 14 a i with
  | none => simp [aI, hx] at hf
  | some q =>
    simp only [aI, hx, Option.map_some, Option.bind_some] at hf
    obtain ⟨n, ha, hin, rfl, -⟩ := ix_some hx
    intro H locs ls cells slots g1 g2 hW hS hl
    have hat := hW.2 a _ ha
    rw [me_I (by simp)] at hat
    exact va_cald (D := D) hB.1 hB.2.1 hB.2.2.2.2.2.2.2.1 (va_P1 hat) 0 1 rfl rfl hin hd (k _ hf H locs ls cells slots g1 g2 hW hS hl)
theorem r_lald (hB : BB X D cy b y cc nL ret rm) {α : Type} {K : Int64 → Option α} {R : α} {a : Nat} {i : Int32} (hd : decode cc pc = .ok (.laload, 1)) (hf : (aL μ a i).bind K = some R) (k : ∀ x, K x = some R → WW X D cy b r μ' nL kc ks (pc + 1) lv (.long x :: st) μ) : WW X D cy b r μ' nL kc ks pc lv (.int i :: .ref (b + a) :: st) μ := by
  cases hx : ix μ 16 a i with
  | none => simp [aL, hx] at hf
  | some q =>
    simp only [aL, hx, Option.map_some, Option.bind_some] at hf
    obtain ⟨n, ha, hin, rfl, -⟩ := ix_some hx
    intro H locs ls cells slots g1 g2 hW hS hl
    have hat := hW.2 a _ ha
    rw [me_L] at hat
    exact va_lald (D := D) hB.1 hB.2.1 hB.2.2.2.2.2.2.2.1 (va_P1 hat) 0 3 rfl rfl hin hd (k _ hf H locs ls cells slots g1 g2 hW hS hl)
theorem tyA_at {cy : Nat → ClassId} {t : Nat} {C : String} (h : (t = 18 ∧ C = RX6) ∨ (t = 19 ∧ C = RX7) ∨ (t = 20 ∧ C = RX10)) : (tyA cy)[t - 13]? = some (cy t, .object C) := by
  rcases h with ⟨rfl, rfl⟩ | ⟨rfl, rfl⟩ | ⟨rfl, rfl⟩ <;> rfl
def rkd (t : Nat) (C : String) : Prop := (t = 18 ∧ C = RX6) ∨ (t = 19 ∧ C = RX7) ∨ (t = 20 ∧ C = RX10)
theorem r_aald (hB : BB X D cy b y cc nL ret rm) {α : Type} {K : Nat → Option α} {R : α} {a t : Nat} {C : String} (ht : rkd t C) {i : Int32} (hd : decode cc pc = .ok (.aaload, 1)) (hf : (aR μ t a i).bind K = some R) (k : ∀ x, K x = some R → WW X D cy b r μ' nL kc ks (pc + 1) lv (.ref (b + x) :: st) μ) : WW X D cy b r μ' nL kc ks pc lv (.int i :: .ref (b + a) :: st) μ := by
  cases hx : ix μ t a i with
  | none => simp [aR, hx] at hf
  | some q =>
    simp only [aR, hx, Option.bind_some] at hf
    obtain ⟨n, ha, hin, rfl, -⟩ := ix_some hx
    cases hv : μ.2.2.2 a i.toNatClampNeg with
    | none => simp [hv] at hf
    | some x =>
      simp only [hv, Option.bind_some] at hf
      intro H locs ls cells slots g1 g2 hW hS hl
      have hat := hW.2 a _ ha
      rw [me_R (by rcases ht with h | h | h <;> simp [h.1])] at hat
      refine va_aldq (D := D) (f := fun j => (μ.2.2.2 a j).map (b + ·)) hB.1 hB.2.1 hB.2.2.2.2.2.2.2.1 (va_P1 hat) 0 (t - 13) rfl (tyA_at ht) hin hd ?_
      rw [hv]
      exact k x hf H locs ls cells slots g1 g2 hW hS hl
-- stores
theorem st_core (hB : BB X D cy b y cc nL ret rm) {a : Nat} {h : Nat × Nat} (ha : μ.1[a]? = some h) {μ1 : MS} (e1 : μ1.1 = μ.1) (eo : ∀ k, k ≠ a → μ1.2.1 k = μ.2.1 k ∧ μ1.2.2.1 k = μ.2.2.1 k ∧ μ1.2.2.2 k = μ.2.2.2 k) {w : Nat} {st' : List Value} (hw : WW X D cy b r μ' nL kc ks w lv st' μ1)
    {H H1 : Heap} {locs : List Loc} {ls : Array Slot} {cells slots i : Nat} (g1 : cells + kc ≤ (xR X).cells) (g2 : slots + ks ≤ (xR X).slots) (hW : Wd D cy b μ H) (hS : va_S (fun q => b ≤ q) (xs X).heap H locs) (hl : lv_has ls nL lv) (hn : va_at D vwCl (b + a, me b cy μ1 a h) H1) (hz : H1.size = H.size) (oq : ∀ q : Nat, q ≠ b + a → H1[q]? = H[q]?) :
    W (xp X) (xl X) (xe X) (xR X) (xs X) (xm X) (xa X) (xw X) (xM X) (xc X) H1 (locs ++ [⟨b + a, i⟩]) cells slots (MQ (xw X) (Qw D cy b r μ') (xa X) (xs X) (xR X).cells (xR X).slots (fun q => b ≤ q)) (F0 (xm X) w ls st') :=
  hw H1 _ ls cells slots g1 g2 (hW.put ha e1 eo hz oq hn) (hS.put hz oq (Nat.le_add_right b a)) hl
theorem arrI_set {b : Nat} {cy : Nat → ClassId} {D : va_G} {μ : MS} {a t n k : Nat} {x : Int32} {v : Value} {H1 : Heap} (ht : t = 13 ∨ t = 14 ∨ t = 15 ∨ t = 17) (hv : v = .int x) (e : H1[b + a]? = some ((vp_cell (cy t) (n, .inl (μ.2.1 a))).setSlot k v)) : va_at D vwCl (b + a, me b cy (uI μ a k x) a (t, n)) H1 := by
  rw [me_I ht]
  show H1[b + a]? = some (vp_cell _ _)
  rw [e, vp_cell_i, vp_cell_i, arrV_store, hv]
  congr 2
  funext q
  by_cases hq : q = k
  · subst hq
    simp [updV, uI, up2]
  · simp [updV, uI, up2, hq]
theorem r_iast (hB : BB X D cy b y cc nL ret rm) {α : Type} {K : MS → Option α} {R : α} {a : Nat} {i x : Int32} (hd : decode cc pc = .ok (.iastore, 1)) (hf : (sI μ 15 a i x).bind K = some R) (k : ∀ μ1, K μ1 = some R → WW X D cy b r μ' nL kc ks (pc + 1) lv st μ1) : WW X D cy b r μ' nL kc ks pc lv (.int x :: .int i :: .ref (b + a) :: st) μ := by
  cases hx : ix μ 15 a i with
  | none => simp [sI, hx] at hf
  | some q =>
    simp only [sI, hx, Option.map_some, Option.bind_some] at hf
    obtain ⟨n, ha, hin, rfl, -⟩ := ix_some hx
    intro H locs ls cells slots g1 g2 hW hS hl
    have hat := hW.2 a _ ha
    rw [me_I (by simp)] at hat
    refine W.iast hB.1 hB.2.1 hat ((hB.2.2.2.2.2.2.2.1.2 2 _ rfl).1 n (fun j => .int (μ.2.1 a j))) (fun q => by cases q) (by show ¬ (i < 0 ∨ (arrV _ _ _).slots.size ≤ _); rw [arrV_size]; exact hin) rfl rfl hd fun H1 e z oq => ?_
    exact st_core hB ha (μ1 := uI μ a i.toNatClampNeg _) rfl (fun k hk => ⟨up2_row hk, rfl, rfl⟩) (k _ hf) g1 g2 hW hS hl (arrI_set (by simp) rfl e) z oq
theorem r_cast (hB : BB X D cy b y cc nL ret rm) {α : Type} {K : MS → Option α} {R : α} {a : Nat} {i x : Int32} (hd : decode cc pc = .ok (.castore, 1)) (hf : (sI μ 14 a i x).bind K = some R) (k : ∀ μ1, K μ1 = some R → WW X D cy b r μ' nL kc ks (pc + 1) lv st μ1) : WW X D cy b r μ' nL kc ks pc lv (.int x :: .int i :: .ref (b + a) :: st) μ := by
  cases hx : ix μ 14 a i with
  | none => simp [sI, hx] at hf
  | some q =>
    simp only [sI, hx, Option.map_some, Option.bind_some] at hf
    obtain ⟨n, ha, hin, rfl, -⟩ := ix_some hx
    intro H locs ls cells slots g1 g2 hW hS hl
    have hat := hW.2 a _ ha
    rw [me_I (by simp)] at hat
    refine W.cast hB.1 hB.2.1 hat ((hB.2.2.2.2.2.2.2.1.2 1 _ rfl).1 n (fun j => .int (μ.2.1 a j))) (fun q => by cases q) (by show ¬ (i < 0 ∨ (arrV _ _ _).slots.size ≤ _); rw [arrV_size]; exact hin) rfl rfl hd fun H1 e z oq => ?_
    exact st_core hB ha (μ1 := uI μ a i.toNatClampNeg _) rfl (fun k hk => ⟨up2_row hk, rfl, rfl⟩) (k _ hf) g1 g2 hW hS hl (arrI_set (by simp) rfl e) z oq
theorem r_last (hB : BB X D cy b y cc nL ret rm) {α : Type} {K : MS → Option α} {R : α} {a : Nat} {i : Int32} {x : Int64} (hd : decode cc pc = .ok (.lastore, 1)) (hf : (sL μ a i x).bind K = some R) (k : ∀ μ1, K μ1 = some R → WW X D cy b r μ' nL kc ks (pc + 1) lv st μ1) : WW X D cy b r μ' nL kc ks pc lv (.long x :: .int i :: .ref (b + a) :: st) μ := by
  cases hx : ix μ 16 a i with
  | none => simp [sL, hx] at hf
  | some q =>
    simp only [sL, hx, Option.map_some, Option.bind_some] at hf
    obtain ⟨n, ha, hin, rfl, -⟩ := ix_some hx
    intro H locs ls cells slots g1 g2 hW hS hl
    have hat := hW.2 a _ ha
    rw [me_L] at hat
    refine W.last hB.1 hB.2.1 hat ((hB.2.2.2.2.2.2.2.1.2 3 _ rfl).1 n (fun j => .long (μ.2.2.1 a j))) (fun q => by cases q) (by show ¬ (i < 0 ∨ (arrV _ _ _).slots.size ≤ _); rw [arrV_size]; exact hin) rfl rfl hd fun H1 e z oq => ?_
    refine st_core hB ha (μ1 := uL μ a i.toNatClampNeg _) rfl (fun k hk => ⟨rfl, up2_row hk, rfl⟩) (k _ hf) g1 g2 hW hS hl ?_ z oq
    rw [me_L]
    show H1[b + a]? = some (vp_cell _ _)
    rw [e, vp_cell_l, vp_cell_l, arrV_store]
    congr 2
    funext q
    by_cases hq : q = i.toNatClampNeg
    · subst hq
      simp [updV, uL, up2]
    · simp [updV, uL, up2, hq]
theorem r_aast (hB : BB X D cy b y cc nL ret rm) {α : Type} {K : MS → Option α} {R : α} {a t ci q : Nat} {C : String} {T : u_T} {N : Nat} {ty : Nat → FieldType} (cf : CF ci C T N ty) (ht : rkd t C) {i : Int32} (hd : decode cc pc = .ok (.aastore, 1)) (hf : (sR μ t ci a i q).bind K = some R) (k : ∀ μ1, K μ1 = some R → WW X D cy b r μ' nL kc ks (pc + 1) lv st μ1) : WW X D cy b r μ' nL kc ks pc lv (.ref (b + q) :: .int i :: .ref (b + a) :: st) μ := by
  rcases Decidable.em (μ.1[q]? = some (ci, 0)) with hq | hq
  case inr => simp [sR, hq] at hf
  simp only [sR, if_pos hq] at hf
  cases hx : ix μ t a i with
  | none => simp [hx] at hf
  | some w =>
    simp only [hx, Option.map_some, Option.bind_some] at hf
    obtain ⟨n, ha, hin, rfl, hlt⟩ := ix_some hx
    have h0 : ¬ i < 0 := fun g => hin (Or.inl g)
    intro H locs ls cells slots g1 g2 hW hS hl
    have hK := hB.2.2.2.2.2.2.2.1
    have ht3 : t = 18 ∨ t = 19 ∨ t = 20 := by rcases ht with h | h | h <;> simp [h.1]
    have hat := hW.2 a _ ha
    rw [me_R ht3] at hat
    have hqt := hW.2 q _ hq
    rw [me_obj cf.2.1] at hqt
    obtain ⟨r', hr', cellV, u1, u2, u3, -⟩ := hqt
    have hcls := (hK.1 ci _ cf.1).2
    obtain ⟨kA, comp, k1, k2, k3, -⟩ := (hK.2 (t - 13) _ (tyA_at ht)).2
    have hcomp : comp = D.1 ci := Option.some.inj (k3.symm.trans hcls.1)
    subst hcomp
    obtain ⟨kC, hkC, -⟩ := hcls.2
    refine W.aast hB.1 hB.2.1 hat (fun q h => by cases h) (fun h => by cases h) k1 k2 rfl hkC ⟨h0, by show _ < (arrV _ _ _).slots.size; rw [arrV_size]; exact hlt⟩ u1 (fun q h => by rw [u3] at h; cases h) (by rw [u2]; exact hkC) (by rw [u2]; exact va_assign hcls) rfl rfl hd fun H1 e z oq => ?_
    refine st_core hB ha (μ1 := uR μ a i.toNatClampNeg _) rfl (fun k hk => ⟨rfl, rfl, up2_row hk⟩) (k _ hf) g1 g2 hW hS hl ?_ z oq
    rw [me_R ht3]
    show H1[b + a]? = some (vp_cell _ _)
    rw [e, vp_cell_q, vp_cell_q, arrV_store]
    congr 2
    funext w
    by_cases hw : w = i.toNatClampNeg
    · subst hw
      simp [updV, uR, up2, va_rf]
    · simp [updV, uR, up2, hw]
end Arr
