/-! THE LAW: what the constructors made. -/
def p00 : Nat → Nat := fun j => if j = 0 then 1 else 39 + 18 * j
/-- the references, one by one -/
def RL0 : List (Nat × Nat × Nat) := (0, 0, 1) :: ((List.range 6).map (fun j => (19, j, 57 + 18 * j)) ++ RFL.flatMap (fun r => r.2.map (fun q => (r.1, q.1, q.2))))
def ckI0 : List (Nat × Nat × Int32) := [(1, 2, 10000), (1, 3, 40000), (1, 4, 20), (2, 1, 0), (2, 4, 0), (13, 1, 0), (15, 1, 0), (17, 1, 0), (0, 2, 0)]
def chk0 (s : LMm) : Bool := decide (s.1 = HH) && s.2.2.all (fun e => decide (RF p00 e.1 e.2.1 = some e.2.2)) && RL0.all (fun e => decide (lkR s.2.2 e.1 e.2.1 = some e.2.2)) && ckI0.all (fun e => decide (lkI s.2.1 e.1 e.2.1 = e.2.2))
def iniB : Bool := match g_X11_init 0 ([(11, 0)], [], []) with
  | none => false
  | some s1 => chk0 s1
theorem iniB_t : iniB = true := by decide +kernel
theorem ini_ok : ∃ s1, g_X11_init 0 ([(11, 0)], [], []) = some s1 ∧ chk0 s1 = true := by
  have h := iniB_t
  unfold iniB at h
  cases h1 : g_X11_init 0 ([(11, 0)], [], []) with
  | none => rw [h1] at h; cases h
  | some s1 =>
    rw [h1] at h
    exact ⟨s1, rfl, h⟩
theorem lkR_mem {k j v : Nat} : ∀ (L : List (Nat × Nat × Nat)), lkR L k j = some v → (k, j, v) ∈ L
  | [], h => by cases h
  | (e1, e2, e3) :: r, h => by
    have h2 : (if k = e1 ∧ j = e2 then some e3 else lkR r k j) = some v := h
    by_cases hc : k = e1 ∧ j = e2
    · rw [if_pos hc] at h2
      have := Option.some.inj h2
      rw [hc.1, hc.2, this]
      exact List.mem_cons_self
    · rw [if_neg hc] at h2
      exact List.mem_cons_of_mem _ (lkR_mem r h2)
theorem lookup_mem {β : Type} {k : Nat} {v : β} : ∀ (L : List (Nat × β)), L.lookup k = some v → (k, v) ∈ L
  | [], h => by cases h
  | (a, b) :: r, h => by
    rw [List.lookup_cons] at h
    split at h
    · rename_i hc
      have hk : k = a := by simpa using hc
      have := Option.some.inj h
      subst this hk
      exact List.mem_cons_self
    · exact List.mem_cons_of_mem _ (lookup_mem r h)
theorem RF_mem {k j v : Nat} (h : RF p00 k j = some v) : (k, j, v) ∈ RL0 := by
  unfold RF at h
  split at h
  · rename_i hc
    obtain ⟨rfl, rfl⟩ := hc
    have := Option.some.inj h
    subst this
    exact List.mem_cons_self
  · split at h
    · rename_i hk
      subst hk
      split at h
      · rename_i hj
        have := Option.some.inj h
        subst this
        refine List.mem_cons_of_mem _ (List.mem_append_left _ (List.mem_map.mpr ⟨j, List.mem_range.mpr hj, ?_⟩))
        unfold p00
        rw [if_neg (by omega), show 57 + 18 * j = 39 + 18 * (j + 1) by omega]
      · cases h
    · obtain ⟨r, h1, h2⟩ := Option.bind_eq_some_iff.mp h
      have m1 := lookup_mem _ h1
      have m2 := lookup_mem _ h2
      exact List.mem_cons_of_mem _ (List.mem_append_right _ (List.mem_flatMap.mpr ⟨(k, r), m1, List.mem_map.mpr ⟨(j, v), m2, rfl⟩⟩))
def z00 (s : LMm) : Nat → Int → Int := fun k j => (lkI s.2.1 k j.toNat).toInt
def l00 : Nat → Int → Int := fun _ _ => 0
/-- the row at the start -/
def σ00 : Int → Int := fun i => if i = 0 then 10000 else if i = 1 then 40000 else if i = 2 then 20 else 0
theorem chk_M {s : LMm} (h : chk0 s = true) : mkM s = M p00 (z00 s) l00 ∧ RX p00 (z00 s) σ00 0 (fun _ _ => 0) := by
  unfold chk0 at h
  simp only [Bool.and_eq_true, decide_eq_true_eq, List.all_eq_true] at h
  obtain ⟨⟨⟨h1, h2⟩, h3⟩, h4⟩ := h
  have eR : lkR s.2.2 = RF p00 := by
    funext k j
    cases hk : lkR s.2.2 k j with
    | some v => exact (h2 _ (lkR_mem _ hk)).symm
    | none =>
      cases hr : RF p00 k j with
      | none => rfl
      | some v =>
        have := h3 _ (RF_mem hr)
        simp only at this
        rw [hk] at this; cases this
  have eI : lkI s.2.1 = fun (k j : Nat) => I3 (z00 s k (j : Int)) := by
    funext k j
    unfold z00
    rw [show ((j : Nat) : Int).toNat = j from Int.toNat_natCast j]
    exact I3_to _
  refine ⟨?_, ?_⟩
  · unfold mkM M
    rw [h1, eI, eR]
    rfl
  · have G : ∀ (k j : Nat) (x : Int32), (k, j, x) ∈ ckI0 → z00 s k j = x.toInt := fun k j x hm => by
      unfold z00
      rw [Int.toNat_natCast]
      exact congrArg Int32.toInt (h4 _ hm)
    have b2 : z00 s 1 2 = 10000 := G 1 2 10000 (by decide +kernel)
    have b3 : z00 s 1 3 = 40000 := G 1 3 40000 (by decide +kernel)
    have b4 : z00 s 1 4 = 20 := G 1 4 20 (by decide +kernel)
    have c1 : z00 s 2 1 = 0 := G 2 1 0 (by decide +kernel)
    have c4 : z00 s 2 4 = 0 := G 2 4 0 (by decide +kernel)
    have d1 : z00 s 13 1 = 0 := G 13 1 0 (by decide +kernel)
    have d2 : z00 s 15 1 = 0 := G 15 1 0 (by decide +kernel)
    have d3 : z00 s 17 1 = 0 := G 17 1 0 (by decide +kernel)
    have f2 : z00 s 0 2 = 0 := G 0 2 0 (by decide +kernel)
    generalize z00 s = z at *
    have tr : ∀ t : Nat, t < 3 → z (1 + 12 + 2 * t) 1 = 0 := by
      intro t ht
      have : t = 0 ∨ t = 1 ∨ t = 2 := by omega
      rcases this with rfl | rfl | rfl
      · exact d1
      · exact d2
      · exact d3
    have p0 : p00 0 = 1 := rfl
    have s0 : σ00 0 = 10000 := rfl
    have s1 : σ00 1 = 40000 := rfl
    have s2 : σ00 2 = 20 := rfl
    have s3 : ∀ i, 3 ≤ i → σ00 i = 0 := fun i hi => by unfold σ00; rw [if_neg (by omega), if_neg (by omega), if_neg (by omega)]
    have s03 := s3 3 (by decide)
    have s58 := s3 58 (by decide)
    refine ⟨⟨fun j hj => ?_, fun i j hi hj hij => ?_⟩, ⟨by omega, by omega, by omega, by omega, by omega, fun q hq => by omega, fun k k0 k1 => by omega, fun t ht => ?_⟩, ⟨⟨by rw [p0, s0]; exact b2, by rw [p0, s1]; exact b3, by rw [p0, s2]; exact b4⟩, ⟨by rw [p0, s03]; exact c1, by rw [p0, s58]; exact c4, fun q hq => by omega, fun k k0 k1 => by omega⟩, fun t ht => ?_⟩, by omega, ⟨f2, fun j hj => by omega⟩⟩
    · have : j = 0 ∨ j = 1 ∨ j = 2 ∨ j = 3 ∨ j = 4 ∨ j = 5 ∨ j = 6 := by omega
      rcases this with rfl | rfl | rfl | rfl | rfl | rfl | rfl <;> (unfold isB p00; decide)
    · unfold p00
      split <;> split <;> omega
    · have := s3 (83 + t) (by omega)
      exact ⟨by omega, fun i i0 i1 => by omega⟩
    · rw [p0]
      have h83 := s3 (83 + t) (by omega)
      refine ⟨by rw [h83]; exact tr t ht, fun i i0 i1 => by omega⟩
