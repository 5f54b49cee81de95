/-! The class's Decoder: codes by phase. Places are bits of a long. -/
def mem (x : Int64) (i : Nat) : Bool := x.toBitVec.getLsbD i
theorem usk : ∀ k : _root_.Fin 64, ((I3 (k.val : Int)).toInt64.toUInt64 &&& Int64.toUInt64 63).toBitVec.toNat % 64 = k.val := by decide +kernel
theorem slk : ∀ k : _root_.Fin 64, (((I3 (k.val : Int)).toInt64 &&& 63).toBitVec.smod 64).toNat = k.val := by decide +kernel
theorem mem_and (x y : Int64) (i : Nat) : mem (x &&& y) i = (mem x i && mem y i) := by unfold mem; rw [Int64.toBitVec_and, BitVec.getLsbD_and]
theorem mem_or (x y : Int64) (i : Nat) : mem (x ||| y) i = (mem x i || mem y i) := by unfold mem; rw [Int64.toBitVec_or, BitVec.getLsbD_or]
theorem mem_usr (x : Int64) {k : Int} (h0 : 0 ≤ k) (h1 : k < 64) (i : Nat) : mem (usr x (I3 k)) i = mem x (k.toNat + i) := by
  have h := usk ⟨k.toNat, by omega⟩
  simp only at h
  rw [show ((k.toNat : Nat) : Int) = k by omega] at h
  unfold mem usr
  rw [UInt64.toBitVec_toInt64, UInt64.toBitVec_shiftRight]
  show ((x.toUInt64).toBitVec >>> (((I3 k).toInt64.toUInt64 &&& Int64.toUInt64 63).toBitVec % 64)).getLsbD i = _
  rw [BitVec.ushiftRight_eq', BitVec.getLsbD_ushiftRight]
  have : (((I3 k).toInt64.toUInt64 &&& Int64.toUInt64 63).toBitVec % 64).toNat = k.toNat := by
    rw [BitVec.toNat_umod]; exact h
  rw [this]; rfl
theorem mem_shl {k : Int} (h0 : 0 ≤ k) (h1 : k < 64) {i : Nat} (hi : i < 64) : mem (shl 1 (I3 k)) i = decide ((i : Int) = k) := by
  have h := slk ⟨k.toNat, by omega⟩
  simp only at h
  rw [show ((k.toNat : Nat) : Int) = k by omega] at h
  unfold mem shl
  rw [Int64.toBitVec_shiftLeft, BitVec.getLsbD_shiftLeft', h]
  have e1 : (1 : Int64).toBitVec = 1#64 := rfl
  rw [e1, BitVec.getLsbD_one]
  by_cases hk : (i : Int) = k
  · have e : i - k.toNat = 0 := by omega
    have e2 : ¬ i < k.toNat := by omega
    simp [hk, hi, e, e2]
  · by_cases h2 : i < k.toNat
    · simp [hk, h2]
    · have e : i - k.toNat ≠ 0 := by omega
      simp [hk, h2, e]
theorem mem_0 (i : Nat) : mem 0 i = false := by unfold mem; exact BitVec.getLsbD_zero
theorem and1_0 (x : Int64) : (x &&& 1 = 0) = (mem x 0 = false) := by
  apply propext
  constructor
  · intro h
    have : mem (x &&& 1) 0 = mem 0 0 := by rw [h]
    rw [mem_and, mem_0] at this
    have e1 : mem 1 0 = true := by decide
    rw [e1, Bool.and_true] at this; exact this
  · intro h
    apply Int64.toBitVec_inj.mp
    apply BitVec.eq_of_getLsbD_eq
    intro i hi
    have e : (x &&& 1).toBitVec.getLsbD i = mem (x &&& 1) i := rfl
    rw [e, mem_and]
    have e0 : (0 : Int64).toBitVec.getLsbD i = false := mem_0 i
    rw [e0]
    by_cases h0 : i = 0
    · subst h0; rw [h]; rfl
    · have : mem 1 i = false := by
        unfold mem
        have e1 : (1 : Int64).toBitVec = 1#64 := rfl
        rw [e1, BitVec.getLsbD_one]; simp [h0]
      rw [this, Bool.and_false]
theorem lg_cmp_0 (x y : Int64) : (lg_cmp x y = 0) = (x = y) := by
  unfold lg_cmp
  apply propext
  by_cases h : x = y
  · subst h
    simp
  · rw [if_neg h]
    split <;> simp [h]
section
variable {p : Nat → Nat} {z l : Nat → Int → Int}
theorem g_isIn {x : Int64} {k : Int} {μ : MS} (h0 : 0 ≤ k) (h1 : k < 64) : f_X2_isIn x (I3 k) μ = some (I3 (bI (mem x k.toNat = true)), μ) := by
  unfold f_X2_isIn
  have e : (lg_cmp ((usr x (I3 k)) &&& 1) 0 = 0) = (mem x k.toNat = false) := by
    rw [lg_cmp_0, and1_0, mem_usr x h0 h1, Nat.add_zero]
  by_cases h : mem x k.toNat = true
  · rw [if_neg (by rw [e, h]; simp), bI_t h]; rfl
  · rw [if_pos (by rw [e]; simpa using h), bI_f h]; rfl
/-- a long that holds the places where something is -/
def Pl (x : Int64) (P : Int → Prop) : Prop := ∀ i : Nat, i < 64 → (mem x i = true ↔ P i)
theorem g_places {e : Int → Int} {m tol len : Int} (hD : De z e m tol) (hE : Eg e m tol) (h2 : 0 ≤ len) (h3 : len ≤ 20000000) (hm : 2 ≤ m) : WP (f_X2_placesOf 40 (I3 len) (M p z l)) (fun r => r.2 = M p z l ∧ Pl r.1 (fun i => 2 ≤ i ∧ i < m ∧ mt (e i) len tol)) := by
  have hm35 := hE.1
  have hz3 : z 40 3 = m := hD.1
  unfold f_X2_placesOf f_X2_placesOf_5
  refine lp_W (fun n s => ∃ (i : Int) (x : Int64), s = (40, I3 len, x, I3 i, M p z l) ∧ 2 ≤ i ∧ i ≤ m ∧ n = (m - i).toNat ∧ Pl x (fun j => 2 ≤ j ∧ j < i ∧ mt (e j) len tol)) (fun n s hs => ?_) ⟨2, 0, rfl, by omega, hm, rfl, ?_⟩
  · obtain ⟨i, x, rfl, hi0, hi1, rfl, hx⟩ := hs
    unfold f_X2_placesOf_5_b
    by_cases hi : i < m
    · have f1 := g_fits (p := p) (l := l) hD hE (show 0 ≤ i by omega) hi h2 h3
      simp (disch := first | assumption | omega) only [↓b_hid, bH_some, ↓hid_W, ↓W_ite, WI_t, WI_f, W_some, I3_a, I3_s, I3_m, I3_n, I3_l, I3_lt, I3_le, I3_e, I3_dv, I3_rm, I3_mx, I3_mn, I3_ab, cI, bI_0, bI_1, rZ_b, up_same, up_row, up_col, xr_some, LQ_r, LQ_l, Int.sub_self, Int.add_zero, Int.zero_add, Int.sub_zero, Int.neg_neg, not_true_eq_false, not_false_eq_true, Int.add_sub_cancel, gI_40, pI_40, iO_40, gR_40_2, aI_41, sI_41, gR_40_5, hz3, f1, WI_pos, WI_neg]
      refine WI_i (fun h => ?_) (fun h => ?_)
      · simp (disch := first | assumption | omega) only [↓b_hid, bH_some, ↓hid_W, ↓W_ite, WI_t, WI_f, W_some, I3_a, I3_s, I3_m, I3_n, I3_l, I3_lt, I3_le, I3_e, I3_dv, I3_rm, I3_mx, I3_mn, I3_ab, cI, bI_0, bI_1, rZ_b, up_same, up_row, up_col, xr_some, LQ_r, LQ_l, Int.sub_self, Int.add_zero, Int.zero_add, Int.sub_zero, Int.neg_neg, not_true_eq_false, not_false_eq_true, Int.add_sub_cancel, f_X2_placesOf_31]
        refine ⟨_, ?_, i + 1, x, rfl, by omega, by omega, rfl, ?_⟩
        · omega
        · intro j hj
          rw [hx j hj]
          constructor
          · rintro ⟨a, b, c⟩; exact ⟨a, by omega, c⟩
          · rintro ⟨a, b, c⟩
            refine ⟨a, ?_, c⟩
            by_cases hji : (j : Int) = i
            · rw [hji] at c; exact absurd c h
            · omega
      · simp (disch := first | assumption | omega) only [↓b_hid, bH_some, ↓hid_W, ↓W_ite, WI_t, WI_f, W_some, I3_a, I3_s, I3_m, I3_n, I3_l, I3_lt, I3_le, I3_e, I3_dv, I3_rm, I3_mx, I3_mn, I3_ab, cI, bI_0, bI_1, rZ_b, up_same, up_row, up_col, xr_some, LQ_r, LQ_l, Int.sub_self, Int.add_zero, Int.zero_add, Int.sub_zero, Int.neg_neg, not_true_eq_false, not_false_eq_true, Int.add_sub_cancel, f_X2_placesOf_31]
        refine ⟨_, ?_, i + 1, _, rfl, by omega, by omega, rfl, ?_⟩
        · omega
        · intro j hj
          rw [mem_or, mem_shl (by omega) (by omega) hj, Bool.or_eq_true, hx j hj, decide_eq_true_iff]
          constructor
          · rintro (⟨a, b, c⟩ | a)
            · exact ⟨a, by omega, c⟩
            · rw [a]; exact ⟨hi0, by omega, Classical.byContradiction h⟩
          · rintro ⟨a, b, c⟩
            by_cases hji : (j : Int) = i
            · exact Or.inr hji
            · exact Or.inl ⟨a, by omega, c⟩
    · have : i = m := by omega
      subst this
      simp (disch := first | assumption | omega) only [↓b_hid, bH_some, ↓hid_W, ↓W_ite, WI_t, WI_f, W_some, I3_a, I3_s, I3_m, I3_n, I3_l, I3_lt, I3_le, I3_e, I3_dv, I3_rm, I3_mx, I3_mn, I3_ab, cI, bI_0, bI_1, rZ_b, up_same, up_row, up_col, xr_some, LQ_r, LQ_l, Int.sub_self, Int.add_zero, Int.zero_add, Int.sub_zero, Int.neg_neg, not_true_eq_false, not_false_eq_true, Int.add_sub_cancel, gI_40, pI_40, iO_40, gR_40_2, aI_41, sI_41, gR_40_5, hz3, f_X2_placesOf_37, WI_pos, WI_neg]
      exact ⟨trivial, hx⟩
  · intro j hj
    rw [mem_0]
    constructor
    · intro h; cases h
    · rintro ⟨a, b, _⟩; omega
theorem aL_42 {i : Int} (h0 : 0 ≤ i) (h1 : i < 17) : aL (M p z l) 42 (I3 i) = some (I6 (l 42 i)) := aL_M rfl (by decide) h0 h1
theorem sL_42 {i : Int} {x : Int64} (h0 : 0 ≤ i) (h1 : i < 17) : sL (M p z l) 42 (I3 i) x = some (M p z (up l 42 i x.toInt)) := by
  have h := sL_M (p := p) (z := z) (l := l) (a := 42) (n := 17) (i := i) (v := x.toInt) rfl (by decide) h0 h1
  rw [show I6 x.toInt = x from Int64.ofInt_toInt x] at h
  exact h
theorem I6_t (x : Int64) : I6 x.toInt = x := Int64.ofInt_toInt x
/-- the rest of a code by phase -/
theorem g_rest {q : Nat} {e f : Int → Int} {m tol q0 : Int} {pr db : Int64} (hq : isP q) (hf : z q = f) (hP : PV f) (hm : 3 ≤ m ∧ m ≤ 33) (hpr : Pl pr (par f e m tol)) (hdb : Pl db (dbl f e m tol)) (hO : ∀ k : Nat, 1 ≤ k → (k : Int) ≤ f 6 → Pl (I6 (l 42 k)) (Rd f e m tol (f 6 - k).toNat)) (hq0 : 2 ≤ q0 ∧ q0 ≤ m) (hR : Rd f e m tol (f 6 - 1).toNat q0) : f_X2_restOfPhaseCode 40 q (I3 q0) pr db (M p z l) = some (I3 (phs f e m tol (f 6 - 1).toNat q0), M p z l) := by
  obtain ⟨p0, p1, p2, p3, p4, p5, p6, p7⟩ := hP
  apply W_eq
  unfold f_X2_restOfPhaseCode f_X2_restOfPhaseCode_9
  have hRm : ∀ (r : Nat) (a : Int), Rd f e m tol r a → a ≤ m := by
    intro r a h
    cases r with
    | zero => rcases h with h | h <;> omega
    | succ r =>
      rcases h with ⟨h, _⟩ | ⟨h, _⟩
      · have := h.2.1; omega
      · have := h.1.2.1; omega
  refine lp_W (fun n s => ∃ (k : Nat) (pl : Int) (b : Int → Int), s = (40, q, pr, db, I3 pl, I3 (csum f b k), I3 k, M p z l) ∧ 1 ≤ k ∧ (k : Int) ≤ f 6 ∧ n = (f 6 - k).toNat ∧ 2 ≤ pl ∧ pl ≤ m ∧ (∀ j : Nat, b j = 0 ∨ b j = 1) ∧ Rd f e m tol (f 6 - k).toNat pl ∧ phs f e m tol (f 6 - 1).toNat q0 = csum f b k + phs f e m tol (f 6 - k).toNat pl) (fun n s hs => ?_) ⟨1, q0, fun _ => 0, ?_, by omega, by omega, rfl, hq0.1, hq0.2, fun _ => Or.inl rfl, hR, ?_⟩
  · obtain ⟨k, pl, b, rfl, hk1, hk6, rfl, hp2, hpm, hb, hRd, hS⟩ := hs
    have hr := csum_r f b hb p5.2 k hk6
    unfold f_X2_restOfPhaseCode_9_b
    by_cases hk : (k : Int) < f 6
    · obtain ⟨r, hr1, hr2⟩ : ∃ r : Nat, (f 6 - k).toNat = r + 1 ∧ (f 6 - (k + 1 : Nat)).toNat = r := ⟨(f 6 - (k + 1 : Nat)).toNat, by omega, rfl⟩
      have hcst : f 6 - ((r : Int) + 1) = k := by omega
      have gm := g_mask (p := p) (z := z) (l := l) (k := k) hq (by omega) (by rw [hf]; omega) (by rw [hf]; omega) (by rw [hf]; omega)
      rw [hf] at gm
      have hbt := csum_bt f b hb p5.2 k k (Nat.le_refl _) hk
      have hor := or_pw hr.1 hbt
      have hOk := hO (k + 1) (by omega) (by omega)
      rw [hr2] at hOk
      have hOk : Pl (I6 (l 42 ((k : Int) + 1))) (Rd f e m tol r) := hOk
      rw [hr1] at hRd hS
      -- both ways on
      have one : ∀ st : Int, st = (if pl % 2 = 0 then 2 else 1) → ¬Rz f e m tol r pl → WP (f_X2_restOfPhaseCode_90 40 q pr db (I3 pl) (I3 (csum f b k)) (I3 k) (I3 st) (M p z l)) (LQ (fun r => r = (I3 (phs f e m tol (f 6 - 1).toNat q0), M p z l)) (fun n s => ∃ (k : Nat) (pl : Int) (b : Int → Int), s = (40, q, pr, db, I3 pl, I3 (csum f b k), I3 k, M p z l) ∧ 1 ≤ k ∧ (k : Int) ≤ f 6 ∧ n = (f 6 - k).toNat ∧ 2 ≤ pl ∧ pl ≤ m ∧ (∀ j : Nat, b j = 0 ∨ b j = 1) ∧ Rd f e m tol (f 6 - k).toNat pl ∧ phs f e m tol (f 6 - 1).toNat q0 = csum f b k + phs f e m tol (f 6 - k).toNat pl) (r + 1)) := by
        intro st hst hz
        have hz' := hz
        unfold Rz at hz'
        have hnx : phn f e m tol r pl = pl + (3 - st) := by
          unfold phn; rw [cif_f hz, hst]; split <;> omega
        have hnR : Rd f e m tol r (pl + (3 - st)) := by
          rcases hRd with h | h
          · by_cases hpar : pl % 2 = 0
            · rw [if_pos hpar] at hst; rw [hst]; exact h.2
            · rw [if_neg hpar] at hz'; exact absurd h hz'
          · by_cases hpar : pl % 2 = 0
            · rw [if_pos hpar] at hz'; exact absurd h hz'
            · rw [if_neg hpar] at hst; rw [hst]; exact h.2
        have hle := hRm _ _ hnR
        have hst12 : st = 1 ∨ st = 2 := by rw [hst]; split <;> omega
        unfold f_X2_restOfPhaseCode_90
        simp (disch := first | assumption | omega) only [↓b_hid, bH_some, ↓hid_W, ↓W_ite, WI_t, WI_f, W_some, I3_a, I3_s, I3_m, I3_n, I3_l, I3_lt, I3_le, I3_e, I3_dv, I3_rm, I3_mx, I3_mn, I3_ab, cI, bI_0, bI_1, rZ_b, up_same, up_row, up_col, xr_some, LQ_r, LQ_l, Int.sub_self, Int.add_zero, Int.zero_add, Int.sub_zero, Int.neg_neg, not_true_eq_false, not_false_eq_true, Int.add_sub_cancel, iO_P, gm, hor, f_X2_restOfPhaseCode_107]
        refine ⟨_, ?_, k + 1, pl + (3 - st), fun j => if j = k then 1 else b j, ?_, by omega, by omega, rfl, by omega, hle, ?_, ?_, ?_⟩
        · omega
        · have : csum f (fun j => if j = k then 1 else b j) (k + 1) = csum f b k + pw (plc f k) := by
            rw [csum]; simp only [if_true, Int.one_mul]
            congr 1
            have : ∀ n : Nat, n ≤ k → csum f (fun j => if j = k then 1 else b j) n = csum f b n := by
              intro n
              induction n with
              | zero => intro _; rfl
              | succ n ih => intro hn; rw [csum, csum, ih (by omega), if_neg (by omega)]
            exact this k (Nat.le_refl k)
          rw [this]; rfl
        · intro j
          show (if (j : Int) = k then (1 : Int) else b j) = 0 ∨ (if (j : Int) = k then (1 : Int) else b j) = 1
          by_cases hj : (j : Int) = k
          · rw [if_pos hj]; exact Or.inr rfl
          · rw [if_neg hj]; exact hb j
        · rw [hr2]; exact hnR
        · rw [hr2, hS]
          have e1 : phs f e m tol (r + 1) pl = pw (plc f k) + phs f e m tol r (pl + (3 - st)) := by
            rw [phs, hnx, hcst]; unfold phb; rw [cif_f hz, Int.one_mul]
          rw [e1]
          have : csum f (fun j => if j = k then 1 else b j) (k + 1) = csum f b k + pw (plc f k) := by
            rw [csum]; simp only [if_true, Int.one_mul]
            congr 1
            have : ∀ n : Nat, n ≤ k → csum f (fun j => if j = k then 1 else b j) n = csum f b n := by
              intro n
              induction n with
              | zero => intro _; rfl
              | succ n ih => intro hn; rw [csum, csum, ih (by omega), if_neg (by omega)]
            exact this k (Nat.le_refl k)
          rw [this]; omega
      have way : ∀ (st : Int) (w : Int64) (P : Int → Prop), st = (if pl % 2 = 0 then 2 else 1) → Pl w P → (Rz f e m tol r pl ↔ P pl ∧ Rd f e m tol r (pl + st)) → WP (f_X2_restOfPhaseCode_62 40 q pr db (I3 pl) (I3 (csum f b k)) (I3 k) (I3 st) w (M p z l)) (LQ (fun r => r = (I3 (phs f e m tol (f 6 - 1).toNat q0), M p z l)) (fun n s => ∃ (k : Nat) (pl : Int) (b : Int → Int), s = (40, q, pr, db, I3 pl, I3 (csum f b k), I3 k, M p z l) ∧ 1 ≤ k ∧ (k : Int) ≤ f 6 ∧ n = (f 6 - k).toNat ∧ 2 ≤ pl ∧ pl ≤ m ∧ (∀ j : Nat, b j = 0 ∨ b j = 1) ∧ Rd f e m tol (f 6 - k).toNat pl ∧ phs f e m tol (f 6 - 1).toNat q0 = csum f b k + phs f e m tol (f 6 - k).toNat pl) (r + 1)) := by
        intro st w P hst hw hRz
        have hst12 : st = 1 ∨ st = 2 := by rw [hst]; split <;> omega
        have hw1 := hw pl.toNat (by omega)
        have e1 : ((pl.toNat : Nat) : Int) = pl := by omega
        rw [e1] at hw1
        have hw2 := hOk (pl + st).toNat (by omega)
        have e2 : (((pl + st).toNat : Nat) : Int) = pl + st := by omega
        rw [e2] at hw2
        unfold f_X2_restOfPhaseCode_62
        simp (disch := first | assumption | omega) only [↓b_hid, bH_some, ↓hid_W, ↓W_ite, WI_t, WI_f, W_some, I3_a, I3_s, I3_m, I3_n, I3_l, I3_lt, I3_le, I3_e, I3_dv, I3_rm, I3_mx, I3_mn, I3_ab, cI, bI_0, bI_1, rZ_b, up_same, up_row, up_col, xr_some, LQ_r, LQ_l, Int.sub_self, Int.add_zero, Int.zero_add, Int.sub_zero, Int.neg_neg, not_true_eq_false, not_false_eq_true, Int.add_sub_cancel, g_isIn]
        refine WI_i (fun h => ?_) (fun h => ?_)
        · simp (disch := first | assumption | omega) only [↓b_hid, bH_some, ↓hid_W, ↓W_ite, WI_t, WI_f, W_some, I3_a, I3_s, I3_m, I3_n, I3_l, I3_lt, I3_le, I3_e, I3_dv, I3_rm, I3_mx, I3_mn, I3_ab, cI, bI_0, bI_1, rZ_b, up_same, up_row, up_col, xr_some, LQ_r, LQ_l, Int.sub_self, Int.add_zero, Int.zero_add, Int.sub_zero, Int.neg_neg, not_true_eq_false, not_false_eq_true, Int.add_sub_cancel]
          refine one st hst (fun hz => ?_)
          exact h (hw1.mpr (hRz.mp hz).1)
        · simp (disch := first | assumption | omega) only [↓b_hid, bH_some, ↓hid_W, ↓W_ite, WI_t, WI_f, W_some, I3_a, I3_s, I3_m, I3_n, I3_l, I3_lt, I3_le, I3_e, I3_dv, I3_rm, I3_mx, I3_mn, I3_ab, cI, bI_0, bI_1, rZ_b, up_same, up_row, up_col, xr_some, LQ_r, LQ_l, Int.sub_self, Int.add_zero, Int.zero_add, Int.sub_zero, Int.neg_neg, not_true_eq_false, not_false_eq_true, Int.add_sub_cancel, gI_40, pI_40, iO_40, gR_40_2, aI_41, sI_41, gR_40_5, aL_42, g_isIn]
          refine WI_i (fun h' => ?_) (fun h' => ?_)
          · simp (disch := first | assumption | omega) only [↓b_hid, bH_some, ↓hid_W, ↓W_ite, WI_t, WI_f, W_some, I3_a, I3_s, I3_m, I3_n, I3_l, I3_lt, I3_le, I3_e, I3_dv, I3_rm, I3_mx, I3_mn, I3_ab, cI, bI_0, bI_1, rZ_b, up_same, up_row, up_col, xr_some, LQ_r, LQ_l, Int.sub_self, Int.add_zero, Int.zero_add, Int.sub_zero, Int.neg_neg, not_true_eq_false, not_false_eq_true, Int.add_sub_cancel]
            refine one st hst (fun hz => ?_)
            exact h' (hw2.mpr (hRz.mp hz).2)
          · have hz : Rz f e m tol r pl := hRz.mpr ⟨hw1.mp (Classical.byContradiction h), hw2.mp (Classical.byContradiction h')⟩
            have hR2 := (hRz.mp hz).2
            have hle := hRm _ _ hR2
            simp (disch := first | assumption | omega) only [↓b_hid, bH_some, ↓hid_W, ↓W_ite, WI_t, WI_f, W_some, I3_a, I3_s, I3_m, I3_n, I3_l, I3_lt, I3_le, I3_e, I3_dv, I3_rm, I3_mx, I3_mn, I3_ab, cI, bI_0, bI_1, rZ_b, up_same, up_row, up_col, xr_some, LQ_r, LQ_l, Int.sub_self, Int.add_zero, Int.zero_add, Int.sub_zero, Int.neg_neg, not_true_eq_false, not_false_eq_true, Int.add_sub_cancel, f_X2_restOfPhaseCode_107]
            refine ⟨_, ?_, k + 1, pl + st, fun j => if j = k then 0 else b j, ?_, by omega, by omega, rfl, by omega, hle, ?_, ?_, ?_⟩
            · omega
            · have : csum f (fun j => if j = k then 0 else b j) (k + 1) = csum f b k := by
                rw [csum]; simp only [if_true, Int.zero_mul, Int.add_zero]
                have : ∀ n : Nat, n ≤ k → csum f (fun j => if j = k then 0 else b j) n = csum f b n := by
                  intro n
                  induction n with
                  | zero => intro _; rfl
                  | succ n ih => intro hn; rw [csum, csum, ih (by omega), if_neg (by omega)]
                exact this k (Nat.le_refl k)
              rw [this]; rfl
            · intro j
              show (if (j : Int) = k then (0 : Int) else b j) = 0 ∨ (if (j : Int) = k then (0 : Int) else b j) = 1
              by_cases hj : (j : Int) = k
              · rw [if_pos hj]; exact Or.inl rfl
              · rw [if_neg hj]; exact hb j
            · rw [hr2]; exact hR2
            · rw [hr2, hS]
              have hnx : phn f e m tol r pl = pl + st := by
                unfold phn; rw [cif_t hz, hst]; split <;> omega
              have e1 : phs f e m tol (r + 1) pl = phs f e m tol r (pl + st) := by
                rw [phs, hnx, hcst]; unfold phb; rw [cif_t hz, Int.zero_mul, Int.zero_add]
              rw [e1]
              have : csum f (fun j => if j = k then 0 else b j) (k + 1) = csum f b k := by
                rw [csum]; simp only [if_true, Int.zero_mul, Int.add_zero]
                have : ∀ n : Nat, n ≤ k → csum f (fun j => if j = k then 0 else b j) n = csum f b n := by
                  intro n
                  induction n with
                  | zero => intro _; rfl
                  | succ n ih => intro hn; rw [csum, csum, ih (by omega), if_neg (by omega)]
                exact this k (Nat.le_refl k)
              rw [this]
      have hn : (f 6 - (k : Int)).toNat = r + 1 := hr1
      rw [hn]
      simp (disch := first | assumption | omega) only [↓b_hid, bH_some, ↓hid_W, ↓W_ite, WI_t, WI_f, W_some, I3_a, I3_s, I3_m, I3_n, I3_l, I3_lt, I3_le, I3_e, I3_dv, I3_rm, I3_mx, I3_mn, I3_ab, cI, bI_0, bI_1, rZ_b, up_same, up_row, up_col, xr_some, LQ_r, LQ_l, Int.sub_self, Int.add_zero, Int.zero_add, Int.sub_zero, Int.neg_neg, not_true_eq_false, not_false_eq_true, Int.add_sub_cancel, gI_P, pI_P, iO_P, hf, WI_pos, WI_neg]
      by_cases hpar : pl % 2 = 0
      · have hw := way 2 pr (par f e m tol) (by rw [if_pos hpar]) hpr (by unfold Rz; rw [if_pos hpar])
        simp (disch := first | assumption | omega) only [↓b_hid, bH_some, ↓hid_W, ↓W_ite, WI_t, WI_f, W_some, I3_a, I3_s, I3_m, I3_n, I3_l, I3_lt, I3_le, I3_e, I3_dv, I3_rm, I3_mx, I3_mn, I3_ab, cI, bI_0, bI_1, rZ_b, up_same, up_row, up_col, xr_some, LQ_r, LQ_l, Int.sub_self, Int.add_zero, Int.zero_add, Int.sub_zero, Int.neg_neg, not_true_eq_false, not_false_eq_true, Int.add_sub_cancel, f_X2_restOfPhaseCode_37, f_X2_restOfPhaseCode_49, WI_pos, WI_neg]
        exact hw
      · have hw := way 1 db (dbl f e m tol) (by rw [if_neg hpar]) hdb (by unfold Rz; rw [if_neg hpar])
        simp (disch := first | assumption | omega) only [↓b_hid, bH_some, ↓hid_W, ↓W_ite, WI_t, WI_f, W_some, I3_a, I3_s, I3_m, I3_n, I3_l, I3_lt, I3_le, I3_e, I3_dv, I3_rm, I3_mx, I3_mn, I3_ab, cI, bI_0, bI_1, rZ_b, up_same, up_row, up_col, xr_some, LQ_r, LQ_l, Int.sub_self, Int.add_zero, Int.zero_add, Int.sub_zero, Int.neg_neg, not_true_eq_false, not_false_eq_true, Int.add_sub_cancel, f_X2_restOfPhaseCode_37, f_X2_restOfPhaseCode_49, WI_pos, WI_neg]
        exact hw
    · have hk6' : (f 6 - (k : Int)).toNat = 0 := by omega
      rw [hk6'] at hS
      simp (disch := first | assumption | omega) only [↓b_hid, bH_some, ↓hid_W, ↓W_ite, WI_t, WI_f, W_some, I3_a, I3_s, I3_m, I3_n, I3_l, I3_lt, I3_le, I3_e, I3_dv, I3_rm, I3_mx, I3_mn, I3_ab, cI, bI_0, bI_1, rZ_b, up_same, up_row, up_col, xr_some, LQ_r, LQ_l, Int.sub_self, Int.add_zero, Int.zero_add, Int.sub_zero, Int.neg_neg, not_true_eq_false, not_false_eq_true, Int.add_sub_cancel, gI_P, pI_P, iO_P, hf, f_X2_restOfPhaseCode_120, WI_pos, WI_neg]
      rw [hS]; simp [phs]
  · have : csum f (fun _ => 0) 1 = 0 := by simp [csum]
    rw [this]; rfl
  · have : csum f (fun _ => 0) 1 = 0 := by simp [csum]
    rw [this]; simp
end
