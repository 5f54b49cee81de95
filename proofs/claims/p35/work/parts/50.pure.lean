/-! THE PURE PART, its ground: the cells of the two objects, numbered as they are made; their memory over Int; rules for simp. Printed by wip/p35/src/50.pure.py. -/
def HH : List (Nat × Nat) := [(11, 0), (7, 0), (8, 0), (18, 6), (15, 12), (15, 12), (6, 0), (6, 0), (6, 0), (6, 0), (6, 0), (6, 0), (20, 3), (10, 0), (15, 200), (10, 0), (15, 200), (10, 0), (15, 200), (19, 6), (9, 0), (14, 160), (8, 0), (18, 6), (15, 12), (15, 12), (6, 0), (6, 0), (6, 0), (6, 0), (6, 0), (6, 0), (10, 0), (15, 200), (20, 12), (3, 0), (15, 100), (15, 100), (10, 0), (15, 200), (2, 0), (15, 35), (16, 17), (5, 0), (15, 30), (15, 30), (15, 30), (4, 0), (0, 0), (15, 200), (0, 0), (15, 200), (1, 0), (10, 0), (15, 200), (10, 0), (15, 200), (7, 0), (8, 0), (18, 6), (15, 12), (15, 12), (6, 0), (6, 0), (6, 0), (6, 0), (6, 0), (6, 0), (20, 3), (10, 0), (15, 200), (10, 0), (15, 200), (10, 0), (15, 200), (7, 0), (8, 0), (18, 6), (15, 12), (15, 12), (6, 0), (6, 0), (6, 0), (6, 0), (6, 0), (6, 0), (20, 3), (10, 0), (15, 200), (10, 0), (15, 200), (10, 0), (15, 200), (7, 0), (8, 0), (18, 6), (15, 12), (15, 12), (6, 0), (6, 0), (6, 0), (6, 0), (6, 0), (6, 0), (20, 3), (10, 0), (15, 200), (10, 0), (15, 200), (10, 0), (15, 200), (7, 0), (8, 0), (18, 6), (15, 12), (15, 12), (6, 0), (6, 0), (6, 0), (6, 0), (6, 0), (6, 0), (20, 3), (10, 0), (15, 200), (10, 0), (15, 200), (10, 0), (15, 200), (7, 0), (8, 0), (18, 6), (15, 12), (15, 12), (6, 0), (6, 0), (6, 0), (6, 0), (6, 0), (6, 0), (20, 3), (10, 0), (15, 200), (10, 0), (15, 200), (10, 0), (15, 200), (7, 0), (8, 0), (18, 6), (15, 12), (15, 12), (6, 0), (6, 0), (6, 0), (6, 0), (6, 0), (6, 0), (20, 3), (10, 0), (15, 200), (10, 0), (15, 200), (10, 0), (15, 200), (10, 0), (15, 200), (10, 0), (15, 200), (10, 0), (15, 200), (10, 0), (15, 200), (10, 0), (15, 200), (10, 0), (15, 200), (10, 0), (15, 200), (10, 0), (15, 200), (10, 0), (15, 200), (10, 0), (15, 200), (10, 0), (15, 200), (10, 0), (15, 200)]
def RFL : List (Nat × List (Nat × Nat)) := [(0, [(1, 19), (3, 20), (4, 22), (5, 32), (6, 34), (7, 35), (8, 40), (9, 43), (10, 47), (11, 52)]), (1, [(0, 2), (1, 12)]), (2, [(0, 3), (2, 4), (3, 5)]), (3, [(0, 6), (1, 7), (2, 8), (3, 9), (4, 10), (5, 11)]), (12, [(0, 13), (1, 15), (2, 17)]), (13, [(0, 14)]), (15, [(0, 16)]), (17, [(0, 18)]), (20, [(0, 21)]), (22, [(0, 23), (2, 24), (3, 25)]), (23, [(0, 26), (1, 27), (2, 28), (3, 29), (4, 30), (5, 31)]), (32, [(0, 33)]), (34, [(0, 165), (1, 167), (2, 169), (3, 171), (4, 173), (5, 175), (6, 177), (7, 179), (8, 181), (9, 183), (10, 185), (11, 187)]), (35, [(0, 36), (1, 37), (3, 38)]), (38, [(0, 39)]), (40, [(2, 41), (5, 42)]), (43, [(0, 44), (1, 45), (2, 46)]), (47, [(0, 48), (1, 50)]), (48, [(0, 49)]), (50, [(0, 51)]), (52, [(0, 53), (1, 55)]), (53, [(0, 54)]), (55, [(0, 56)]), (57, [(0, 58), (1, 68)]), (58, [(0, 59), (2, 60), (3, 61)]), (59, [(0, 62), (1, 63), (2, 64), (3, 65), (4, 66), (5, 67)]), (68, [(0, 69), (1, 71), (2, 73)]), (69, [(0, 70)]), (71, [(0, 72)]), (73, [(0, 74)]), (75, [(0, 76), (1, 86)]), (76, [(0, 77), (2, 78), (3, 79)]), (77, [(0, 80), (1, 81), (2, 82), (3, 83), (4, 84), (5, 85)]), (86, [(0, 87), (1, 89), (2, 91)]), (87, [(0, 88)]), (89, [(0, 90)]), (91, [(0, 92)]), (93, [(0, 94), (1, 104)]), (94, [(0, 95), (2, 96), (3, 97)]), (95, [(0, 98), (1, 99), (2, 100), (3, 101), (4, 102), (5, 103)]), (104, [(0, 105), (1, 107), (2, 109)]), (105, [(0, 106)]), (107, [(0, 108)]), (109, [(0, 110)]), (111, [(0, 112), (1, 122)]), (112, [(0, 113), (2, 114), (3, 115)]), (113, [(0, 116), (1, 117), (2, 118), (3, 119), (4, 120), (5, 121)]), (122, [(0, 123), (1, 125), (2, 127)]), (123, [(0, 124)]), (125, [(0, 126)]), (127, [(0, 128)]), (129, [(0, 130), (1, 140)]), (130, [(0, 131), (2, 132), (3, 133)]), (131, [(0, 134), (1, 135), (2, 136), (3, 137), (4, 138), (5, 139)]), (140, [(0, 141), (1, 143), (2, 145)]), (141, [(0, 142)]), (143, [(0, 144)]), (145, [(0, 146)]), (147, [(0, 148), (1, 158)]), (148, [(0, 149), (2, 150), (3, 151)]), (149, [(0, 152), (1, 153), (2, 154), (3, 155), (4, 156), (5, 157)]), (158, [(0, 159), (1, 161), (2, 163)]), (159, [(0, 160)]), (161, [(0, 162)]), (163, [(0, 164)]), (165, [(0, 166)]), (167, [(0, 168)]), (169, [(0, 170)]), (171, [(0, 172)]), (173, [(0, 174)]), (175, [(0, 176)]), (177, [(0, 178)]), (179, [(0, 180)]), (181, [(0, 182)]), (183, [(0, 184)]), (185, [(0, 186)]), (187, [(0, 188)])]
abbrev I3 (x : Int) : Int32 := Int32.ofInt x
abbrev I6 (x : Int) : Int64 := Int64.ofInt x
def RF (p : Nat → Nat) (k j : Nat) : Option Nat :=
  if k = 0 ∧ j = 0 then some (p 0) else if k = 19 then (if j < 6 then some (p (j + 1)) else none) else (RFL.lookup k).bind (fun r => r.lookup j)
def M (p : Nat → Nat) (z l : Nat → Int → Int) : MS := (HH, fun k j => I3 (z k j), fun k j => I6 (l k j), RF p)
def up (z : Nat → Int → Int) (a : Nat) (i v : Int) : Nat → Int → Int := fun k j => if k = a ∧ j = i then v else z k j
def cpr (z : Nat → Int → Int) (a b : Nat) (n : Int) : Nat → Int → Int := fun k j => if k = b ∧ 0 ≤ j ∧ j < n then z a j else z k j
def upP (p : Nat → Nat) (i v : Nat) : Nat → Nat := fun j => if j = i then v else p j
theorem up_same (z : Nat → Int → Int) (a : Nat) (i v : Int) : up z a i v a i = v := by simp [up]
theorem up_row {k a : Nat} (h : k ≠ a) (z : Nat → Int → Int) (i v : Int) : up z a i v k = z k := by funext j; simp [up, h]
theorem up_col {i j : Int} (h : j ≠ i) (z : Nat → Int → Int) (k a : Nat) (v : Int) : up z a i v k j = z k j := by simp [up, h]
theorem up_eq {k a : Nat} {i j : Int} (h : k = a) (h' : j = i) (z : Nat → Int → Int) (v : Int) : up z a i v k j = v := by simp [up, h, h']
theorem cpr_row {k b : Nat} (h : k ≠ b) (z : Nat → Int → Int) (a : Nat) (n : Int) : cpr z a b n k = z k := by funext j; simp [cpr, h]
theorem cpr_in {k b : Nat} {n j : Int} (h : k = b) (h0 : 0 ≤ j) (h1 : j < n) (z : Nat → Int → Int) (a : Nat) : cpr z a b n k j = z a j := by simp [cpr, h, h0, h1]
theorem upP_same (p : Nat → Nat) (i v : Nat) : upP p i v i = v := by simp [upP]
theorem upP_ne {i j : Nat} (h : j ≠ i) (p : Nat → Nat) (v : Nat) : upP p i v j = p j := by simp [upP, h]
-- numbers
theorem I3_i {a : Int} (h0 : -2147483648 ≤ a) (h1 : a < 2147483648) : (I3 a).toInt = a := Int32.toInt_ofInt_of_le h0 h1
theorem I3_a (a b : Int) : I3 a + I3 b = I3 (a + b) := (Int32.ofInt_add a b).symm
theorem I3_s (a b : Int) : I3 a - I3 b = I3 (a - b) := (Int32.ofInt_sub a b).symm
theorem I3_m (a b : Int) : I3 a * I3 b = I3 (a * b) := (Int32.ofInt_mul a b).symm
theorem I3_n (a : Int) : -I3 a = I3 (-a) := (Int32.ofInt_neg a).symm
theorem I3_l (n : Nat) : (no_index (OfNat.ofNat n) : Int32) = I3 (OfNat.ofNat n) := by
  have h : Int32.ofNat n = Int32.ofInt n := Int32.ofInt_eq_ofNat.symm
  exact h
theorem cI (n : Nat) : ((no_index (OfNat.ofNat n) : Nat) : Int) = OfNat.ofNat n := rfl
theorem I3_lt {a b : Int} (h0 : -2147483648 ≤ a) (h1 : a < 2147483648) (h2 : -2147483648 ≤ b) (h3 : b < 2147483648) : (I3 a < I3 b) = (a < b) := by
  rw [Int32.lt_iff_toInt_lt, I3_i h0 h1, I3_i h2 h3]
theorem I3_le {a b : Int} (h0 : -2147483648 ≤ a) (h1 : a < 2147483648) (h2 : -2147483648 ≤ b) (h3 : b < 2147483648) : (I3 a ≤ I3 b) = (a ≤ b) := by
  rw [Int32.le_iff_toInt_le, I3_i h0 h1, I3_i h2 h3]
theorem I3_e {a b : Int} (h0 : -2147483648 ≤ a) (h1 : a < 2147483648) (h2 : -2147483648 ≤ b) (h3 : b < 2147483648) : (I3 a = I3 b) = (a = b) := by
  rw [← Int32.toInt_inj, I3_i h0 h1, I3_i h2 h3]
theorem I3_inj {a b : Int} (h0 : -2147483648 ≤ a) (h1 : a < 2147483648) (h2 : -2147483648 ≤ b) (h3 : b < 2147483648) (h : I3 a = I3 b) : a = b := by
  rw [I3_e h0 h1 h2 h3] at h; exact h
theorem I3_to (x : Int32) : x = I3 x.toInt := (Int32.ofInt_toInt x).symm
theorem I3_nat {i : Int} (h0 : 0 ≤ i) (h1 : i < 2147483648) : (I3 i).toNatClampNeg = i.toNat := Int32.toNatClampNeg_ofInt_of_le (by omega) (by omega)
theorem I3_mx {a b : Int} (h0 : -2147483648 ≤ a) (h1 : a < 2147483648) (h2 : -2147483648 ≤ b) (h3 : b < 2147483648) : mxI (I3 a) (I3 b) = I3 (if a < b then b else a) := by
  unfold mxI; simp only [I3_lt h0 h1 h2 h3]; split <;> rfl
theorem I3_mn {a b : Int} (h0 : -2147483648 ≤ a) (h1 : a < 2147483648) (h2 : -2147483648 ≤ b) (h3 : b < 2147483648) : mnI (I3 a) (I3 b) = I3 (if b < a then b else a) := by
  unfold mnI; simp only [I3_lt h2 h3 h0 h1]; split <;> rfl
theorem I3_ab {a : Int} (h0 : -2147483648 < a) (h1 : a < 2147483648) : abI (I3 a) = I3 (if 0 ≤ a then a else -a) := by
  unfold abI
  simp only [show (0 : Int32) = I3 0 from rfl, I3_le (show (-2147483648 : Int) ≤ 0 by omega) (show (0 : Int) < 2147483648 by omega) (show -2147483648 ≤ a by omega) h1, I3_s]
  split
  · rfl
  · congr 1; omega
theorem I3_dv {a b : Int} (h0 : 0 ≤ a) (h1 : a < 2147483648) (h2 : 0 < b) (h3 : b < 2147483648) : dvI (I3 a) (I3 b) = some (I3 (a / b)) := by
  unfold dvI
  rw [show (0 : Int32) = I3 0 from rfl, if_neg (by rw [I3_e (by omega) h3 (by omega) (by omega)]; omega)]
  congr 1
  apply Int32.toInt_inj.mp
  rw [Int32.toInt_div_of_ne_right _ _ ?_, I3_i (by omega) h1, I3_i (by omega) h3, Int.tdiv_eq_ediv_of_nonneg h0, I3_i]
  · have := Int.ediv_nonneg h0 (show (0 : Int) ≤ b by omega); omega
  · have := Int.ediv_le_self b h0; omega
  · intro h
    have : I3 b = I3 (-1) := h
    have := I3_inj (by omega) h3 (by omega) (by omega) this
    omega
theorem I3_rm {a b : Int} (h0 : 0 ≤ a) (h1 : a < 2147483648) (h2 : 0 < b) (h3 : b < 2147483648) : rmI (I3 a) (I3 b) = some (I3 (a % b)) := by
  have h := I3_dv h0 h1 h2 h3
  unfold dvI at h
  unfold rmI
  split at h
  · cases h
  · rename_i h'
    rw [if_neg h', Option.some.inj h, I3_m, I3_s]
    congr 2
    have := Int.emod_add_mul_ediv a b
    rw [Int.mul_comm (a / b) b]
    omega
theorem nrw_15 (v : Int) : nrw 15 (I3 v) = I3 v := rfl
-- the ops over the memory
theorem M_h (p : Nat → Nat) (z l : Nat → Int → Int) : (M p z l).1 = HH := rfl
theorem gI_M {p : Nat → Nat} {z l : Nat → Int → Int} {c a : Nat} (j : Nat) (h : HH[a]? = some (c, 0)) : gI (M p z l) c a j = some (I3 (z a j)) := by
  unfold gI; rw [M_h, if_pos h]; rfl
theorem pI_M {p : Nat → Nat} {z l : Nat → Int → Int} {c a : Nat} (j : Nat) (v : Int) (h : HH[a]? = some (c, 0)) : pI (M p z l) c a j (I3 v) = some (M p (up z a j v) l) := by
  unfold pI; rw [M_h, if_pos h]
  congr 1
  unfold M uI up2
  refine Prod.ext rfl (Prod.ext ?_ rfl)
  funext k j'
  simp only [up]
  by_cases hk : k = a ∧ j' = j
  · rw [if_pos hk, if_pos ⟨hk.1, by rw [hk.2]⟩]
  · rw [if_neg hk, if_neg]; rintro ⟨h1, h2⟩; exact hk ⟨h1, Int.ofNat.inj h2⟩
theorem gR_M {p : Nat → Nat} {z l : Nat → Int → Int} {c a j t : Nat} (h : HH[a]? = some (c, 0)) (h' : RF p a j = some t) : gR (M p z l) c a j = some t := by
  unfold gR; rw [M_h, if_pos h]; exact h'
theorem isO_M {p : Nat → Nat} {z l : Nat → Int → Int} {c a : Nat} {α : Type} {e : Option α} (h : HH[a]? = some (c, 0)) : isO (M p z l) c a e = e := by
  unfold isO; rw [M_h, if_pos h]
theorem ix_M {p : Nat → Nat} {z l : Nat → Int → Int} {t a n : Nat} {i : Int} (h : HH[a]? = some (t, n)) (hn : n < 2147483648) (h0 : 0 ≤ i) (h1 : i < n) : ix (M p z l) t a (I3 i) = some i.toNat := by
  unfold ix; rw [M_h, h]
  simp only
  rw [I3_nat h0 (by omega), if_pos]
  refine ⟨trivial, ?_, by omega⟩
  rw [show (0 : Int32) = I3 0 from rfl, I3_le (by omega) (by omega) (by omega) (by omega)]; exact h0
theorem aI_M {p : Nat → Nat} {z l : Nat → Int → Int} {t a n : Nat} {i : Int} (h : HH[a]? = some (t, n)) (hn : n < 2147483648) (h0 : 0 ≤ i) (h1 : i < n) : aI (M p z l) t a (I3 i) = some (I3 (z a i)) := by
  unfold aI; rw [ix_M h hn h0 h1]
  simp only [Option.map]
  show some (I3 (z a (i.toNat : Int))) = _
  rw [Int.toNat_of_nonneg h0]
theorem aL_M {p : Nat → Nat} {z l : Nat → Int → Int} {a n : Nat} {i : Int} (h : HH[a]? = some (16, n)) (hn : n < 2147483648) (h0 : 0 ≤ i) (h1 : i < n) : aL (M p z l) a (I3 i) = some (I6 (l a i)) := by
  unfold aL; rw [ix_M h hn h0 h1]
  simp only [Option.map]
  show some (I6 (l a (i.toNat : Int))) = _
  rw [Int.toNat_of_nonneg h0]
theorem sL_M {p : Nat → Nat} {z l : Nat → Int → Int} {a n : Nat} {i v : Int} (h : HH[a]? = some (16, n)) (hn : n < 2147483648) (h0 : 0 ≤ i) (h1 : i < n) : sL (M p z l) a (I3 i) (I6 v) = some (M p z (up l a i v)) := by
  unfold sL; rw [ix_M h hn h0 h1]
  simp only [Option.map]
  congr 1
  unfold M uL up2
  refine Prod.ext rfl (Prod.ext rfl (Prod.ext ?_ rfl))
  funext k j'
  simp only [up]
  by_cases hk : k = a ∧ j' = i.toNat
  · rw [if_pos hk, if_pos ⟨hk.1, by omega⟩]
  · rw [if_neg hk, if_neg]; rintro ⟨h1, h2⟩; exact hk ⟨h1, by omega⟩
theorem sI_M {p : Nat → Nat} {z l : Nat → Int → Int} {t a n : Nat} {i : Int} {x : Int32} {v : Int} (h : HH[a]? = some (t, n)) (hn : n < 2147483648) (h0 : 0 ≤ i) (h1 : i < n) (hx : nrw t x = I3 v) : sI (M p z l) t a (I3 i) x = some (M p (up z a i v) l) := by
  unfold sI; rw [ix_M h hn h0 h1, hx]
  simp only [Option.map]
  congr 1
  unfold M uI up2
  refine Prod.ext rfl (Prod.ext ?_ rfl)
  funext k j'
  simp only [up]
  by_cases hk : k = a ∧ j' = i.toNat
  · rw [if_pos hk, if_pos ⟨hk.1, by omega⟩]
  · rw [if_neg hk, if_neg]; rintro ⟨h1, h2⟩; exact hk ⟨h1, by omega⟩
theorem aR_M {p : Nat → Nat} {z l : Nat → Int → Int} {t a n q : Nat} {i : Int} (h : HH[a]? = some (t, n)) (hn : n < 2147483648) (h0 : 0 ≤ i) (h1 : i < n) (h' : RF p a i.toNat = some q) : aR (M p z l) t a (I3 i) = some q := by
  unfold aR; rw [ix_M h hn h0 h1]; exact h'
theorem gL_M {p : Nat → Nat} {z l : Nat → Int → Int} {c a : Nat} (j : Nat) (h : HH[a]? = some (c, 0)) : gL (M p z l) c a j = some (I6 (l a j)) := by
  unfold gL; rw [M_h, if_pos h]; rfl
theorem pL_M {p : Nat → Nat} {z l : Nat → Int → Int} {c a : Nat} (j : Nat) (v : Int) (h : HH[a]? = some (c, 0)) : pL (M p z l) c a j (I6 v) = some (M p z (up l a j v)) := by
  unfold pL; rw [M_h, if_pos h]
  congr 1
  unfold M uL up2
  refine Prod.ext rfl (Prod.ext rfl (Prod.ext ?_ rfl))
  funext k j'
  simp only [up]
  by_cases hk : k = a ∧ j' = j
  · rw [if_pos hk, if_pos ⟨hk.1, by rw [hk.2]⟩]
  · rw [if_neg hk, if_neg]; rintro ⟨h1, h2⟩; exact hk ⟨h1, Int.ofNat.inj h2⟩
theorem pZ_M {p : Nat → Nat} {z l : Nat → Int → Int} {c a : Nat} (j : Nat) {v : Int} (h : HH[a]? = some (c, 0)) (hv : 0 ≤ v) (hw : v ≤ 1) : pZ (M p z l) c a j (I3 v) = some (M p (up z a j v) l) := by
  have h1 := pI_M (p := p) (z := z) (l := l) j v h
  unfold pI at h1; unfold pZ
  rw [M_h, if_pos h] at h1
  rw [M_h, if_pos]
  · exact h1
  · refine ⟨h, ?_⟩
    have : v = 0 ∨ v = 1 := by omega
    rcases this with rfl | rfl
    · exact Or.inl rfl
    · exact Or.inr rfl
theorem cpI_M {p : Nat → Nat} {z l : Nat → Int → Int} {a b na nb : Nat} {n : Int} (ha : HH[a]? = some (15, na)) (hb : HH[b]? = some (15, nb)) (h0 : 0 ≤ n) (h1 : n ≤ na) (h2 : n ≤ nb) (hm : n < 2147483648) : cpI (M p z l) a 0 b 0 (I3 n) = some (M p (cpr z a b n) l) := by
  unfold cpI; rw [M_h, ha, hb]
  simp only
  rw [I3_nat h0 hm, if_pos]
  · congr 1
    unfold M uRow cpr
    refine Prod.ext rfl (Prod.ext ?_ rfl)
    funext k j
    by_cases hk : k = b
    · subst hk
      have h5 : Int32.toNatClampNeg 0 = 0 := rfl
      simp only [if_true, va_cpy, true_and, h5]
      by_cases hj : j < n.toNat
      · rw [if_pos (by omega), if_pos (by omega)]
        show I3 (z a _) = _
        congr 2; omega
      · rw [if_neg (by omega), if_neg (by omega)]
    · simp [hk]
  · have h5 : Int32.toNatClampNeg 0 = 0 := rfl
    refine ⟨Int32.le_refl 0, Int32.le_refl 0, ?_, by omega, by omega⟩
    rw [show (0 : Int32) = I3 0 from rfl, I3_le (by omega) (by omega) (by omega) (by omega)]; exact h0
-- what answers so that ..
def WP {α : Type} (m : Option α) (Q : α → Prop) : Prop := ∃ r, m = some r ∧ Q r
theorem W_some {α : Type} (r : α) (Q : α → Prop) : WP (some r) Q = Q r := by
  apply propext; constructor
  · rintro ⟨r', h, hq⟩; cases h; exact hq
  · intro h; exact ⟨r, rfl, h⟩
theorem W_imp {α : Type} {m : Option α} {Q R : α → Prop} (h : WP m Q) (hi : ∀ r, Q r → R r) : WP m R := by
  obtain ⟨r, e, hq⟩ := h; exact ⟨r, e, hi r hq⟩
theorem W_eq {α : Type} {m : Option α} {r : α} (h : WP m (fun x => x = r)) : m = some r := by
  obtain ⟨r', e, hq⟩ := h; rw [e, hq]
theorem eq_W {α : Type} {m : Option α} {r : α} (h : m = some r) : WP m (fun x => x = r) := ⟨r, h, rfl⟩
def hidI {α : Type} [i : Inhabited α] : α := i.default
abbrev hd {α : Type} (A : α) : α := @hidI α ⟨A⟩
def bH {α β : Type} (m : Option α) (k : α → Option β) : Option β := m.bind k
def WI {α : Type} (c : Prop) (A B : Option α) (Q : α → Prop) : Prop := (c → WP A Q) ∧ (¬c → WP B Q)
theorem b_hid {α β : Type} (m : Option α) (k : α → Option β) : m.bind k = bH m (@hidI _ ⟨k⟩) := by unfold bH hidI; rfl
theorem bH_some {α β : Type} (x : α) (k : α → Option β) : bH (some x) (@hidI _ ⟨k⟩) = k x := by unfold bH hidI; rfl
theorem hid_W {α : Type} (A : Option α) (Q : α → Prop) : WP (@hidI _ ⟨A⟩) Q = WP A Q := by unfold hidI; rfl
theorem W_ite {α : Type} (c : Prop) [Decidable c] (A B : Option α) (Q : α → Prop) : WP (if c then A else B) Q = WI c (@hidI _ ⟨A⟩) (@hidI _ ⟨B⟩) Q := by
  apply propext; unfold WI hidI
  constructor
  · intro h; constructor
    · intro hc; rw [if_pos hc] at h; exact h
    · intro hc; rw [if_neg hc] at h; exact h
  · rintro ⟨h1, h2⟩
    by_cases hc : c
    · rw [if_pos hc]; exact h1 hc
    · rw [if_neg hc]; exact h2 hc
theorem WI_t {α : Type} (A B : Option α) (Q : α → Prop) : WI True (@hidI _ ⟨A⟩) (@hidI _ ⟨B⟩) Q = WP A Q := by
  apply propext; unfold WI hidI; simp
theorem WI_f {α : Type} (A B : Option α) (Q : α → Prop) : WI False (@hidI _ ⟨A⟩) (@hidI _ ⟨B⟩) Q = WP B Q := by
  apply propext; unfold WI hidI; simp
theorem WI_i {α : Type} {c : Prop} {A B : Option α} {Q : α → Prop} (h1 : c → WP A Q) (h2 : ¬c → WP B Q) : WI c A B Q := ⟨h1, h2⟩
theorem W_b {α β : Type} {m : Option α} {k : α → Option β} {Q : β → Prop} (h : WP m (fun x => WP (k x) Q)) : WP (m.bind k) Q := by
  obtain ⟨x, e, y, e2, hq⟩ := h
  exact ⟨y, by rw [e]; exact e2, hq⟩
theorem W_bH {α β : Type} {m : Option α} {k : α → Option β} {Q : β → Prop} (h : WP m (fun x => WP (k x) Q)) : WP (bH m (@hidI _ ⟨k⟩)) Q := W_b h
theorem W_xr {σ τ : Type} {m : Option τ} {Q : σ ⊕ τ → Prop} (h : WP m (fun r => Q (.inr r))) : WP (xr m) Q := by
  obtain ⟨r, e, hq⟩ := h
  exact ⟨.inr r, by rw [e]; rfl, hq⟩
theorem xr_some {σ τ : Type} (r : τ) : (xr (some r) : Option (σ ⊕ τ)) = some (.inr r) := rfl
/-- behind one turn of a loop -/
def LQ {σ ρ : Type} (Q : ρ → Prop) (I : Nat → σ → Prop) (n : Nat) (r : σ ⊕ ρ) : Prop := match r with
  | .inr r => Q r
  | .inl s => ∃ m, m < n ∧ I m s
theorem LQ_r {σ ρ : Type} (Q : ρ → Prop) (I : Nat → σ → Prop) (n : Nat) (r : ρ) : LQ Q I n (.inr r) = Q r := by unfold LQ; rfl
theorem LQ_l {σ ρ : Type} (Q : ρ → Prop) (I : Nat → σ → Prop) (n : Nat) (s : σ) : LQ Q I n (.inl s) = ∃ m, m < n ∧ I m s := by unfold LQ; rfl
/-- a loop, by what holds at its head -/
theorem lp_W {σ ρ : Type} {body : σ → Option (σ ⊕ ρ)} {Q : ρ → Prop} (Inv : Nat → σ → Prop) (h : ∀ n s, Inv n s → WP (body s) (LQ Q Inv n)) : ∀ {n : Nat} {s : σ}, Inv n s → WP (lp body s) Q := by
  intro n
  induction n using Nat.strongRecOn with
  | _ n ih =>
    intro s hs
    obtain ⟨r, e, hq⟩ := h n s hs
    rw [lp_eq, e]
    cases r with
    | inr r => exact ⟨r, rfl, hq⟩
    | inl s' => obtain ⟨m, hm, hi⟩ := hq; exact ih m hm hi
theorem lp_1 {σ ρ : Type} {body : σ → Option (σ ⊕ ρ)} {Q : ρ → Prop} {s : σ} (h : WP (body s) (fun r => match r with
    | .inr r => Q r
    | .inl s' => WP (lp body s') Q)) : WP (lp body s) Q := by
  obtain ⟨r, e, hq⟩ := h
  rw [lp_eq, e]
  cases r with
  | inr r => exact ⟨r, rfl, hq⟩
  | inl s' => exact hq
theorem upI_v {z : Nat → Int → Int} : ∀ (k : Nat) (i : Int), z k i = z k i := fun _ _ => rfl
theorem WI_pos {α : Type} {c : Prop} (h : c) (A B : Option α) (Q : α → Prop) : WI c (@hidI _ ⟨A⟩) (@hidI _ ⟨B⟩) Q = WP A Q := by
  rw [show c = True from eq_true h]; exact WI_t A B Q
theorem WI_neg {α : Type} {c : Prop} (h : ¬c) (A B : Option α) (Q : α → Prop) : WI c (@hidI _ ⟨A⟩) (@hidI _ ⟨B⟩) Q = WP B Q := by
  rw [show c = False from eq_false h]; exact WI_f A B Q
def bI (c : Prop) [Decidable c] : Int := if c then 1 else 0
theorem bI_0 (c : Prop) [Decidable c] : (I3 (bI c) = I3 0) = ¬c := by
  unfold bI; by_cases h : c
  · rw [if_pos h, I3_e (by omega) (by omega) (by omega) (by omega)]; simp [h]
  · rw [if_neg h]; simp [h]
theorem bI_1 (c : Prop) [Decidable c] : (I3 (bI c) = I3 1) = c := by
  unfold bI; by_cases h : c
  · rw [if_pos h]; simp [h]
  · rw [if_neg h, I3_e (by omega) (by omega) (by omega) (by omega)]; simp [h]
theorem bI_t {c : Prop} [Decidable c] (h : c) : bI c = 1 := by unfold bI; rw [if_pos h]
theorem bI_f {c : Prop} [Decidable c] (h : ¬c) : bI c = 0 := by unfold bI; rw [if_neg h]
theorem bI_r (c : Prop) [Decidable c] : 0 ≤ bI c ∧ bI c ≤ 1 := by unfold bI; split <;> omega
theorem rZ_b (c : Prop) [Decidable c] (μ : MS) : rZ (I3 (bI c)) μ = some (I3 (bI c), μ) := by
  unfold rZ; rw [if_pos]
  by_cases h : c
  · rw [bI_t h]; exact Or.inr rfl
  · rw [bI_f h]; exact Or.inl rfl
-- kinds of cells
def isT (t : Nat) : Prop := HH[t]? = some (10, 0) ∧ HH[t + 1]? = some (15, 200) ∧ t ≠ 0 ∧ t ≠ 19 ∧ (RFL.lookup t).bind (fun r => r.lookup 0) = some (t + 1)
def isB (b : Nat) : Prop := b = 1 ∨ b = 57 ∨ b = 75 ∨ b = 93 ∨ b = 111 ∨ b = 129 ∨ b = 147
def isTb (t : Nat) : Prop := t = 22 ∨ t = 2 ∨ t = 58 ∨ t = 76 ∨ t = 94 ∨ t = 112 ∨ t = 130 ∨ t = 148
def isP (q : Nat) : Prop := HH[q]? = some (6, 0)
theorem isB_r {b : Nat} (h : isB b) : (b = 1 ∨ 57 ≤ b) ∧ b + 18 ≤ 165 := by unfold isB at h; omega
theorem isB_1 : isB 1 := Or.inl rfl
theorem isB_sep {a b : Nat} (ha : isB a) (hb : isB b) (h : a ≠ b) : a + 18 ≤ b ∨ b + 18 ≤ a := by unfold isB at ha hb; omega
theorem isTb_B {b : Nat} (h : isB b) : isTb (b + 1) := by unfold isB at h; unfold isTb; omega
theorem isTb_22 : isTb 22 := Or.inl rfl
theorem isTb_r {t : Nat} (h : isTb t) : (t = 2 ∨ t = 22 ∨ 58 ≤ t) ∧ t + 17 ≤ 165 := by unfold isTb at h; omega
theorem isP_T {t i : Nat} (h : isTb t) (hi : i < 6) : isP (t + 4 + i) := by
  have : i = 0 ∨ i = 1 ∨ i = 2 ∨ i = 3 ∨ i = 4 ∨ i = 5 := by omega
  rcases h with rfl | rfl | rfl | rfl | rfl | rfl | rfl | rfl <;> rcases this with rfl | rfl | rfl | rfl | rfl | rfl <;> rfl
theorem isT_B {b s : Nat} (h : isB b) (hs : s < 3) : isT (b + 12 + 2 * s) := by
  have : s = 0 ∨ s = 1 ∨ s = 2 := by omega
  rcases h with rfl | rfl | rfl | rfl | rfl | rfl | rfl <;> rcases this with rfl | rfl | rfl <;> exact ⟨rfl, rfl, by decide, by decide, rfl⟩
theorem isT_32 : isT 32 := ⟨rfl, rfl, by decide, by decide, rfl⟩
theorem isT_38 : isT 38 := ⟨rfl, rfl, by decide, by decide, rfl⟩
theorem isT_53 : isT 53 := ⟨rfl, rfl, by decide, by decide, rfl⟩
theorem isT_55 : isT 55 := ⟨rfl, rfl, by decide, by decide, rfl⟩
theorem isT_bf {i : Nat} (h : i < 12) : isT (165 + 2 * i) := by
  have : i = 0 ∨ i = 1 ∨ i = 2 ∨ i = 3 ∨ i = 4 ∨ i = 5 ∨ i = 6 ∨ i = 7 ∨ i = 8 ∨ i = 9 ∨ i = 10 ∨ i = 11 := by omega
  rcases this with rfl | rfl | rfl | rfl | rfl | rfl | rfl | rfl | rfl | rfl | rfl | rfl <;> exact ⟨rfl, rfl, by decide, by decide, rfl⟩
section Kinds
variable {p : Nat → Nat} {z l : Nat → Int → Int} {t b q : Nat}
theorem RF_o {k j : Nat} (h0 : k ≠ 0) (h1 : k ≠ 19) : RF p k j = (RFL.lookup k).bind (fun r => r.lookup j) := by
  unfold RF; rw [if_neg (by omega), if_neg h1]
theorem gI_T (h : isT t) (j : Nat) : gI (M p z l) 10 t (no_index (OfNat.ofNat j)) = some (I3 (z t (OfNat.ofNat j))) := gI_M _ h.1
theorem pI_T (h : isT t) (j : Nat) (v : Int) : pI (M p z l) 10 t (no_index (OfNat.ofNat j)) (I3 v) = some (M p (up z t (OfNat.ofNat j) v) l) := pI_M _ v h.1
theorem iO_T (h : isT t) {α : Type} (e : Option α) : isO (M p z l) 10 t e = e := isO_M h.1
theorem gR_T (h : isT t) : gR (M p z l) 10 t 0 = some (t + 1) := gR_M h.1 (by rw [RF_o h.2.2.1 h.2.2.2.1]; exact h.2.2.2.2)
theorem aI_T (h : isT t) {i : Int} (h0 : 0 ≤ i) (h1 : i < 200) : aI (M p z l) 15 (t + 1) (I3 i) = some (I3 (z (t + 1) i)) := aI_M h.2.1 (by decide) h0 h1
theorem sI_T (h : isT t) {i : Int} (v : Int) (h0 : 0 ≤ i) (h1 : i < 200) : sI (M p z l) 15 (t + 1) (I3 i) (I3 v) = some (M p (up z (t + 1) i v) l) := sI_M h.2.1 (by decide) h0 h1 rfl
theorem gI_P (h : isP q) (j : Nat) : gI (M p z l) 6 q (no_index (OfNat.ofNat j)) = some (I3 (z q (OfNat.ofNat j))) := gI_M _ h
theorem pI_P (h : isP q) (j : Nat) (v : Int) : pI (M p z l) 6 q (no_index (OfNat.ofNat j)) (I3 v) = some (M p (up z q (OfNat.ofNat j) v) l) := pI_M _ v h
theorem iO_P (h : isP q) {α : Type} (e : Option α) : isO (M p z l) 6 q e = e := isO_M h
theorem hTb (h : isTb t) : HH[t]? = some (8, 0) ∧ HH[t + 1]? = some (18, 6) ∧ HH[t + 2]? = some (15, 12) ∧ HH[t + 3]? = some (15, 12) ∧ t ≠ 0 ∧ t ≠ 19 ∧ t + 1 ≠ 0 ∧ t + 1 ≠ 19 := by
  rcases h with rfl | rfl | rfl | rfl | rfl | rfl | rfl | rfl <;> exact ⟨rfl, rfl, rfl, rfl, by decide, by decide, by decide, by decide⟩
theorem gI_Tb (h : isTb t) (j : Nat) : gI (M p z l) 8 t (no_index (OfNat.ofNat j)) = some (I3 (z t (OfNat.ofNat j))) := gI_M _ (hTb h).1
theorem pI_Tb (h : isTb t) (j : Nat) (v : Int) : pI (M p z l) 8 t (no_index (OfNat.ofNat j)) (I3 v) = some (M p (up z t (OfNat.ofNat j) v) l) := pI_M _ v (hTb h).1
theorem iO_Tb (h : isTb t) {α : Type} (e : Option α) : isO (M p z l) 8 t e = e := isO_M (hTb h).1
theorem gR_Tb0 (h : isTb t) : gR (M p z l) 8 t 0 = some (t + 1) := gR_M (hTb h).1 (by rw [RF_o (hTb h).2.2.2.2.1 (hTb h).2.2.2.2.2.1]; rcases h with rfl | rfl | rfl | rfl | rfl | rfl | rfl | rfl <;> rfl)
theorem gR_Tb2 (h : isTb t) : gR (M p z l) 8 t 2 = some (t + 2) := gR_M (hTb h).1 (by rw [RF_o (hTb h).2.2.2.2.1 (hTb h).2.2.2.2.2.1]; rcases h with rfl | rfl | rfl | rfl | rfl | rfl | rfl | rfl <;> rfl)
theorem gR_Tb3 (h : isTb t) : gR (M p z l) 8 t 3 = some (t + 3) := gR_M (hTb h).1 (by rw [RF_o (hTb h).2.2.2.2.1 (hTb h).2.2.2.2.2.1]; rcases h with rfl | rfl | rfl | rfl | rfl | rfl | rfl | rfl <;> rfl)
theorem aR_Tb (h : isTb t) {i : Int} (h0 : 0 ≤ i) (h1 : i < 6) : aR (M p z l) 18 (t + 1) (I3 i) = some (t + 4 + i.toNat) := aR_M (hTb h).2.1 (by decide) h0 h1 (by
  rw [RF_o (hTb h).2.2.2.2.2.2.1 (hTb h).2.2.2.2.2.2.2]
  have : i = 0 ∨ i = 1 ∨ i = 2 ∨ i = 3 ∨ i = 4 ∨ i = 5 := by omega
  rcases h with rfl | rfl | rfl | rfl | rfl | rfl | rfl | rfl <;> rcases this with rfl | rfl | rfl | rfl | rfl | rfl <;> rfl)
theorem aI_Tb2 (h : isTb t) {i : Int} (h0 : 0 ≤ i) (h1 : i < 12) : aI (M p z l) 15 (t + 2) (I3 i) = some (I3 (z (t + 2) i)) := aI_M (hTb h).2.2.1 (by decide) h0 h1
theorem aI_Tb3 (h : isTb t) {i : Int} (h0 : 0 ≤ i) (h1 : i < 12) : aI (M p z l) 15 (t + 3) (I3 i) = some (I3 (z (t + 3) i)) := aI_M (hTb h).2.2.2.1 (by decide) h0 h1
theorem sI_Tb2 (h : isTb t) {i : Int} (v : Int) (h0 : 0 ≤ i) (h1 : i < 12) : sI (M p z l) 15 (t + 2) (I3 i) (I3 v) = some (M p (up z (t + 2) i v) l) := sI_M (hTb h).2.2.1 (by decide) h0 h1 rfl
theorem sI_Tb3 (h : isTb t) {i : Int} (v : Int) (h0 : 0 ≤ i) (h1 : i < 12) : sI (M p z l) 15 (t + 3) (I3 i) (I3 v) = some (M p (up z (t + 3) i v) l) := sI_M (hTb h).2.2.2.1 (by decide) h0 h1 rfl
theorem cpI_Tb2 {a : Nat} (ha : isTb a) (h : isTb t) : cpI (M p z l) (a + 2) (I3 0) (t + 2) (I3 0) (I3 12) = some (M p (cpr z (a + 2) (t + 2) 12) l) := cpI_M (hTb ha).2.2.1 (hTb h).2.2.1 (by decide) (by decide) (by decide) (by decide)
theorem cpI_Tb3 {a : Nat} (ha : isTb a) (h : isTb t) : cpI (M p z l) (a + 3) (I3 0) (t + 3) (I3 0) (I3 12) = some (M p (cpr z (a + 3) (t + 3) 12) l) := cpI_M (hTb ha).2.2.2.1 (hTb h).2.2.2.1 (by decide) (by decide) (by decide) (by decide)
theorem cpI_T {a : Nat} {n : Int} (ha : isT a) (h : isT t) (h0 : 0 ≤ n) (h1 : n ≤ 200) : cpI (M p z l) (a + 1) (I3 0) (t + 1) (I3 0) (I3 n) = some (M p (cpr z (a + 1) (t + 1) n) l) := cpI_M ha.2.1 h.2.1 h0 h1 h1 (by omega)
theorem hB (h : isB b) : HH[b]? = some (7, 0) ∧ HH[b + 11]? = some (20, 3) ∧ b ≠ 0 ∧ b ≠ 19 ∧ b + 11 ≠ 0 ∧ b + 11 ≠ 19 := by
  rcases h with rfl | rfl | rfl | rfl | rfl | rfl | rfl <;> exact ⟨rfl, rfl, by decide, by decide, by decide, by decide⟩
theorem gI_B (h : isB b) (j : Nat) : gI (M p z l) 7 b (no_index (OfNat.ofNat j)) = some (I3 (z b (OfNat.ofNat j))) := gI_M _ (hB h).1
theorem pI_B (h : isB b) (j : Nat) (v : Int) : pI (M p z l) 7 b (no_index (OfNat.ofNat j)) (I3 v) = some (M p (up z b (OfNat.ofNat j) v) l) := pI_M _ v (hB h).1
theorem iO_B (h : isB b) {α : Type} (e : Option α) : isO (M p z l) 7 b e = e := isO_M (hB h).1
theorem gR_B0 (h : isB b) : gR (M p z l) 7 b 0 = some (b + 1) := gR_M (hB h).1 (by rw [RF_o (hB h).2.2.1 (hB h).2.2.2.1]; rcases h with rfl | rfl | rfl | rfl | rfl | rfl | rfl <;> rfl)
theorem gR_B1 (h : isB b) : gR (M p z l) 7 b 1 = some (b + 11) := gR_M (hB h).1 (by rw [RF_o (hB h).2.2.1 (hB h).2.2.2.1]; rcases h with rfl | rfl | rfl | rfl | rfl | rfl | rfl <;> rfl)
theorem aR_B (h : isB b) {i : Int} (h0 : 0 ≤ i) (h1 : i < 3) : aR (M p z l) 20 (b + 11) (I3 i) = some (b + 12 + 2 * i.toNat) := aR_M (hB h).2.1 (by decide) h0 h1 (by
  rw [RF_o (hB h).2.2.2.2.1 (hB h).2.2.2.2.2]
  have : i = 0 ∨ i = 1 ∨ i = 2 := by omega
  rcases h with rfl | rfl | rfl | rfl | rfl | rfl | rfl <;> rcases this with rfl | rfl | rfl <;> rfl)
theorem aR_34 {i : Int} (h0 : 0 ≤ i) (h1 : i < 12) : aR (M p z l) 20 34 (I3 i) = some (165 + 2 * i.toNat) := aR_M rfl (by decide) h0 h1 (by
  rw [RF_o (by decide) (by decide)]
  have : i = 0 ∨ i = 1 ∨ i = 2 ∨ i = 3 ∨ i = 4 ∨ i = 5 ∨ i = 6 ∨ i = 7 ∨ i = 8 ∨ i = 9 ∨ i = 10 ∨ i = 11 := by omega
  rcases this with rfl | rfl | rfl | rfl | rfl | rfl | rfl | rfl | rfl | rfl | rfl | rfl <;> rfl)
theorem aR_19 {i : Int} (h0 : 0 ≤ i) (h1 : i < 6) : aR (M p z l) 19 19 (I3 i) = some (p (i.toNat + 1)) := aR_M rfl (by decide) h0 h1 (by
  unfold RF; rw [if_neg (by omega), if_pos rfl, if_pos (by omega)])
theorem sR_19 (h : isB q) {i : Int} (h0 : 0 ≤ i) (h1 : i < 6) : sR (M p z l) 19 7 19 (I3 i) q = some (M (upP p (i.toNat + 1) q) z l) := by
  unfold sR; rw [M_h, if_pos (hB h).1, ix_M (t := 19) (a := 19) (n := 6) rfl (by decide) h0 h1]
  simp only [Option.map]
  congr 1
  unfold M uR up2
  refine Prod.ext rfl (Prod.ext rfl (Prod.ext rfl ?_))
  funext k j
  simp only [RF, upP]
  by_cases h5 : k = 0 ∧ j = 0
  · rw [if_neg (by omega), if_pos h5, if_pos h5, if_neg (by omega)]
  · rw [if_neg h5, if_neg h5]
    by_cases h6 : k = 19
    · by_cases h7 : j = i.toNat
      · rw [if_pos ⟨h6, h7⟩, if_pos h6, if_pos (by omega), if_pos (by omega)]
      · rw [if_neg (by omega), if_pos h6, if_pos h6]
        by_cases h8 : j < 6
        · rw [if_pos h8, if_pos h8, if_neg (by omega)]
        · rw [if_neg h8, if_neg h8]
    · rw [if_neg (by omega), if_neg h6, if_neg h6]
theorem gR_0_0 : gR (M p z l) 11 0 0 = some (p 0) := gR_M rfl rfl
theorem pR_0 (q : Nat) : pR (M p z l) 11 0 0 q = some (M (upP p 0 q) z l) := by
  unfold pR; rw [M_h, if_pos (show HH[0]? = some (11, 0) from rfl)]
  congr 1
  unfold M uR up2
  refine Prod.ext rfl (Prod.ext rfl (Prod.ext rfl ?_))
  funext k j
  simp only [RF, upP]
  by_cases h5 : k = 0 ∧ j = 0
  · rw [if_pos h5, if_pos h5]; rfl
  · rw [if_neg h5, if_neg h5, if_neg h5]
    by_cases h6 : k = 19
    · rw [if_pos h6, if_pos h6]
      by_cases h8 : j < 6
      · rw [if_pos h8, if_pos h8, if_neg (by omega)]
      · rw [if_neg h8, if_neg h8]
    · rw [if_neg h6, if_neg h6]
end Kinds

section Fixed
variable {p : Nat → Nat} {z l : Nat → Int → Int}
theorem gI_0 (j : Nat) : gI (M p z l) 11 0 (no_index (OfNat.ofNat j)) = some (I3 (z 0 (OfNat.ofNat j))) := gI_M _ rfl
theorem pI_0 (j : Nat) (v : Int) : pI (M p z l) 11 0 (no_index (OfNat.ofNat j)) (I3 v) = some (M p (up z 0 (OfNat.ofNat j) v) l) := pI_M _ v rfl
theorem iO_0 {α : Type} (e : Option α) : isO (M p z l) 11 0 e = e := isO_M rfl
theorem gR_0_1 : gR (M p z l) 11 0 1 = some 19 := gR_M rfl rfl
theorem gR_0_3 : gR (M p z l) 11 0 3 = some 20 := gR_M rfl rfl
theorem gR_0_4 : gR (M p z l) 11 0 4 = some 22 := gR_M rfl rfl
theorem gR_0_5 : gR (M p z l) 11 0 5 = some 32 := gR_M rfl rfl
theorem gR_0_6 : gR (M p z l) 11 0 6 = some 34 := gR_M rfl rfl
theorem gR_0_7 : gR (M p z l) 11 0 7 = some 35 := gR_M rfl rfl
theorem gR_0_8 : gR (M p z l) 11 0 8 = some 40 := gR_M rfl rfl
theorem gR_0_9 : gR (M p z l) 11 0 9 = some 43 := gR_M rfl rfl
theorem gR_0_10 : gR (M p z l) 11 0 10 = some 47 := gR_M rfl rfl
theorem gR_0_11 : gR (M p z l) 11 0 11 = some 52 := gR_M rfl rfl
theorem gI_20 (j : Nat) : gI (M p z l) 9 20 (no_index (OfNat.ofNat j)) = some (I3 (z 20 (OfNat.ofNat j))) := gI_M _ rfl
theorem pI_20 (j : Nat) (v : Int) : pI (M p z l) 9 20 (no_index (OfNat.ofNat j)) (I3 v) = some (M p (up z 20 (OfNat.ofNat j) v) l) := pI_M _ v rfl
theorem iO_20 {α : Type} (e : Option α) : isO (M p z l) 9 20 e = e := isO_M rfl
theorem gR_20_0 : gR (M p z l) 9 20 0 = some 21 := gR_M rfl rfl
theorem gI_35 (j : Nat) : gI (M p z l) 3 35 (no_index (OfNat.ofNat j)) = some (I3 (z 35 (OfNat.ofNat j))) := gI_M _ rfl
theorem pI_35 (j : Nat) (v : Int) : pI (M p z l) 3 35 (no_index (OfNat.ofNat j)) (I3 v) = some (M p (up z 35 (OfNat.ofNat j) v) l) := pI_M _ v rfl
theorem iO_35 {α : Type} (e : Option α) : isO (M p z l) 3 35 e = e := isO_M rfl
theorem gR_35_0 : gR (M p z l) 3 35 0 = some 36 := gR_M rfl rfl
theorem gR_35_1 : gR (M p z l) 3 35 1 = some 37 := gR_M rfl rfl
theorem gR_35_3 : gR (M p z l) 3 35 3 = some 38 := gR_M rfl rfl
theorem gI_40 (j : Nat) : gI (M p z l) 2 40 (no_index (OfNat.ofNat j)) = some (I3 (z 40 (OfNat.ofNat j))) := gI_M _ rfl
theorem pI_40 (j : Nat) (v : Int) : pI (M p z l) 2 40 (no_index (OfNat.ofNat j)) (I3 v) = some (M p (up z 40 (OfNat.ofNat j) v) l) := pI_M _ v rfl
theorem iO_40 {α : Type} (e : Option α) : isO (M p z l) 2 40 e = e := isO_M rfl
theorem gR_40_2 : gR (M p z l) 2 40 2 = some 41 := gR_M rfl rfl
theorem gR_40_5 : gR (M p z l) 2 40 5 = some 42 := gR_M rfl rfl
theorem gI_43 (j : Nat) : gI (M p z l) 5 43 (no_index (OfNat.ofNat j)) = some (I3 (z 43 (OfNat.ofNat j))) := gI_M _ rfl
theorem pI_43 (j : Nat) (v : Int) : pI (M p z l) 5 43 (no_index (OfNat.ofNat j)) (I3 v) = some (M p (up z 43 (OfNat.ofNat j) v) l) := pI_M _ v rfl
theorem iO_43 {α : Type} (e : Option α) : isO (M p z l) 5 43 e = e := isO_M rfl
theorem gR_43_0 : gR (M p z l) 5 43 0 = some 44 := gR_M rfl rfl
theorem gR_43_1 : gR (M p z l) 5 43 1 = some 45 := gR_M rfl rfl
theorem gR_43_2 : gR (M p z l) 5 43 2 = some 46 := gR_M rfl rfl
theorem gI_47 (j : Nat) : gI (M p z l) 4 47 (no_index (OfNat.ofNat j)) = some (I3 (z 47 (OfNat.ofNat j))) := gI_M _ rfl
theorem pI_47 (j : Nat) (v : Int) : pI (M p z l) 4 47 (no_index (OfNat.ofNat j)) (I3 v) = some (M p (up z 47 (OfNat.ofNat j) v) l) := pI_M _ v rfl
theorem iO_47 {α : Type} (e : Option α) : isO (M p z l) 4 47 e = e := isO_M rfl
theorem gR_47_0 : gR (M p z l) 4 47 0 = some 48 := gR_M rfl rfl
theorem gR_47_1 : gR (M p z l) 4 47 1 = some 50 := gR_M rfl rfl
theorem gI_48 (j : Nat) : gI (M p z l) 0 48 (no_index (OfNat.ofNat j)) = some (I3 (z 48 (OfNat.ofNat j))) := gI_M _ rfl
theorem pI_48 (j : Nat) (v : Int) : pI (M p z l) 0 48 (no_index (OfNat.ofNat j)) (I3 v) = some (M p (up z 48 (OfNat.ofNat j) v) l) := pI_M _ v rfl
theorem iO_48 {α : Type} (e : Option α) : isO (M p z l) 0 48 e = e := isO_M rfl
theorem gR_48_0 : gR (M p z l) 0 48 0 = some 49 := gR_M rfl rfl
theorem gI_50 (j : Nat) : gI (M p z l) 0 50 (no_index (OfNat.ofNat j)) = some (I3 (z 50 (OfNat.ofNat j))) := gI_M _ rfl
theorem pI_50 (j : Nat) (v : Int) : pI (M p z l) 0 50 (no_index (OfNat.ofNat j)) (I3 v) = some (M p (up z 50 (OfNat.ofNat j) v) l) := pI_M _ v rfl
theorem iO_50 {α : Type} (e : Option α) : isO (M p z l) 0 50 e = e := isO_M rfl
theorem gR_50_0 : gR (M p z l) 0 50 0 = some 51 := gR_M rfl rfl
theorem gI_52 (j : Nat) : gI (M p z l) 1 52 (no_index (OfNat.ofNat j)) = some (I3 (z 52 (OfNat.ofNat j))) := gI_M _ rfl
theorem pI_52 (j : Nat) (v : Int) : pI (M p z l) 1 52 (no_index (OfNat.ofNat j)) (I3 v) = some (M p (up z 52 (OfNat.ofNat j) v) l) := pI_M _ v rfl
theorem iO_52 {α : Type} (e : Option α) : isO (M p z l) 1 52 e = e := isO_M rfl
theorem gR_52_0 : gR (M p z l) 1 52 0 = some 53 := gR_M rfl rfl
theorem gR_52_1 : gR (M p z l) 1 52 1 = some 55 := gR_M rfl rfl
theorem aI_21 {i : Int} (h0 : 0 ≤ i) (h1 : i < 160) : aI (M p z l) 14 21 (I3 i) = some (I3 (z 21 i)) := aI_M rfl (by decide) h0 h1
theorem aI_24 {i : Int} (h0 : 0 ≤ i) (h1 : i < 12) : aI (M p z l) 15 24 (I3 i) = some (I3 (z 24 i)) := aI_M rfl (by decide) h0 h1
theorem sI_24 {i : Int} (v : Int) (h0 : 0 ≤ i) (h1 : i < 12) : sI (M p z l) 15 24 (I3 i) (I3 v) = some (M p (up z 24 i v) l) := sI_M rfl (by decide) h0 h1 rfl
theorem aI_25 {i : Int} (h0 : 0 ≤ i) (h1 : i < 12) : aI (M p z l) 15 25 (I3 i) = some (I3 (z 25 i)) := aI_M rfl (by decide) h0 h1
theorem sI_25 {i : Int} (v : Int) (h0 : 0 ≤ i) (h1 : i < 12) : sI (M p z l) 15 25 (I3 i) (I3 v) = some (M p (up z 25 i v) l) := sI_M rfl (by decide) h0 h1 rfl
theorem aI_33 {i : Int} (h0 : 0 ≤ i) (h1 : i < 200) : aI (M p z l) 15 33 (I3 i) = some (I3 (z 33 i)) := aI_M rfl (by decide) h0 h1
theorem sI_33 {i : Int} (v : Int) (h0 : 0 ≤ i) (h1 : i < 200) : sI (M p z l) 15 33 (I3 i) (I3 v) = some (M p (up z 33 i v) l) := sI_M rfl (by decide) h0 h1 rfl
theorem aI_36 {i : Int} (h0 : 0 ≤ i) (h1 : i < 100) : aI (M p z l) 15 36 (I3 i) = some (I3 (z 36 i)) := aI_M rfl (by decide) h0 h1
theorem sI_36 {i : Int} (v : Int) (h0 : 0 ≤ i) (h1 : i < 100) : sI (M p z l) 15 36 (I3 i) (I3 v) = some (M p (up z 36 i v) l) := sI_M rfl (by decide) h0 h1 rfl
theorem aI_37 {i : Int} (h0 : 0 ≤ i) (h1 : i < 100) : aI (M p z l) 15 37 (I3 i) = some (I3 (z 37 i)) := aI_M rfl (by decide) h0 h1
theorem sI_37 {i : Int} (v : Int) (h0 : 0 ≤ i) (h1 : i < 100) : sI (M p z l) 15 37 (I3 i) (I3 v) = some (M p (up z 37 i v) l) := sI_M rfl (by decide) h0 h1 rfl
theorem aI_39 {i : Int} (h0 : 0 ≤ i) (h1 : i < 200) : aI (M p z l) 15 39 (I3 i) = some (I3 (z 39 i)) := aI_M rfl (by decide) h0 h1
theorem sI_39 {i : Int} (v : Int) (h0 : 0 ≤ i) (h1 : i < 200) : sI (M p z l) 15 39 (I3 i) (I3 v) = some (M p (up z 39 i v) l) := sI_M rfl (by decide) h0 h1 rfl
theorem aI_41 {i : Int} (h0 : 0 ≤ i) (h1 : i < 35) : aI (M p z l) 15 41 (I3 i) = some (I3 (z 41 i)) := aI_M rfl (by decide) h0 h1
theorem sI_41 {i : Int} (v : Int) (h0 : 0 ≤ i) (h1 : i < 35) : sI (M p z l) 15 41 (I3 i) (I3 v) = some (M p (up z 41 i v) l) := sI_M rfl (by decide) h0 h1 rfl
theorem aI_44 {i : Int} (h0 : 0 ≤ i) (h1 : i < 30) : aI (M p z l) 15 44 (I3 i) = some (I3 (z 44 i)) := aI_M rfl (by decide) h0 h1
theorem sI_44 {i : Int} (v : Int) (h0 : 0 ≤ i) (h1 : i < 30) : sI (M p z l) 15 44 (I3 i) (I3 v) = some (M p (up z 44 i v) l) := sI_M rfl (by decide) h0 h1 rfl
theorem aI_45 {i : Int} (h0 : 0 ≤ i) (h1 : i < 30) : aI (M p z l) 15 45 (I3 i) = some (I3 (z 45 i)) := aI_M rfl (by decide) h0 h1
theorem sI_45 {i : Int} (v : Int) (h0 : 0 ≤ i) (h1 : i < 30) : sI (M p z l) 15 45 (I3 i) (I3 v) = some (M p (up z 45 i v) l) := sI_M rfl (by decide) h0 h1 rfl
theorem aI_46 {i : Int} (h0 : 0 ≤ i) (h1 : i < 30) : aI (M p z l) 15 46 (I3 i) = some (I3 (z 46 i)) := aI_M rfl (by decide) h0 h1
theorem sI_46 {i : Int} (v : Int) (h0 : 0 ≤ i) (h1 : i < 30) : sI (M p z l) 15 46 (I3 i) (I3 v) = some (M p (up z 46 i v) l) := sI_M rfl (by decide) h0 h1 rfl
theorem aI_49 {i : Int} (h0 : 0 ≤ i) (h1 : i < 200) : aI (M p z l) 15 49 (I3 i) = some (I3 (z 49 i)) := aI_M rfl (by decide) h0 h1
theorem sI_49 {i : Int} (v : Int) (h0 : 0 ≤ i) (h1 : i < 200) : sI (M p z l) 15 49 (I3 i) (I3 v) = some (M p (up z 49 i v) l) := sI_M rfl (by decide) h0 h1 rfl
theorem aI_51 {i : Int} (h0 : 0 ≤ i) (h1 : i < 200) : aI (M p z l) 15 51 (I3 i) = some (I3 (z 51 i)) := aI_M rfl (by decide) h0 h1
theorem sI_51 {i : Int} (v : Int) (h0 : 0 ≤ i) (h1 : i < 200) : sI (M p z l) 15 51 (I3 i) (I3 v) = some (M p (up z 51 i v) l) := sI_M rfl (by decide) h0 h1 rfl
theorem aI_54 {i : Int} (h0 : 0 ≤ i) (h1 : i < 200) : aI (M p z l) 15 54 (I3 i) = some (I3 (z 54 i)) := aI_M rfl (by decide) h0 h1
theorem sI_54 {i : Int} (v : Int) (h0 : 0 ≤ i) (h1 : i < 200) : sI (M p z l) 15 54 (I3 i) (I3 v) = some (M p (up z 54 i v) l) := sI_M rfl (by decide) h0 h1 rfl
theorem aI_56 {i : Int} (h0 : 0 ≤ i) (h1 : i < 200) : aI (M p z l) 15 56 (I3 i) = some (I3 (z 56 i)) := aI_M rfl (by decide) h0 h1
theorem sI_56 {i : Int} (v : Int) (h0 : 0 ≤ i) (h1 : i < 200) : sI (M p z l) 15 56 (I3 i) (I3 v) = some (M p (up z 56 i v) l) := sI_M rfl (by decide) h0 h1 rfl
theorem pZ_43 (j : Nat) {v : Int} (hv : 0 ≤ v) (hw : v ≤ 1) : pZ (M p z l) 5 43 (no_index (OfNat.ofNat j)) (I3 v) = some (M p (up z 43 (OfNat.ofNat j) v) l) := pZ_M _ rfl hv hw
theorem pZ_52 (j : Nat) {v : Int} (hv : 0 ≤ v) (hw : v ≤ 1) : pZ (M p z l) 1 52 (no_index (OfNat.ofNat j)) (I3 v) = some (M p (up z 52 (OfNat.ofNat j) v) l) := pZ_M _ rfl hv hw
end Fixed
