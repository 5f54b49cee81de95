/-! Both objects together: what holds between calls, and how a call keeps it. -/
theorem V_c {σ σ' : Int → Int} (h : ∀ i : Int, 0 ≤ i → i < 686 → σ i = σ' i) (hV : V σ) : V σ' := by
  obtain ⟨v0, v1, v2, v3, v58, vp, vb, vt⟩ := hV
  unfold V
  rw [← h 0 (by decide) (by decide), ← h 1 (by decide) (by decide), ← h 2 (by decide) (by decide), ← h 3 (by decide) (by decide), ← h 58 (by decide) (by decide)]
  refine ⟨v0, v1, v2, v3, v58, fun q hq => PV_c (fun j j0 j1 => h _ (by omega) (by omega)) (vp q hq), fun k k0 k1 => ?_, fun s hs => ?_⟩
  · rw [← h (59 + 2 * k) (by omega) (by omega), ← h (60 + 2 * k) (by omega) (by omega)]; exact vb k k0 k1
  · have hv := vt s hs
    rw [← h (83 + s) (by omega) (by omega)]
    refine ⟨hv.1, fun i i0 i1 => ?_⟩
    rw [← h (86 + 200 * s + i) (by omega) (by omega)]; exact hv.2 i i0 i1
theorem Tb_c {z : Nat → Int → Int} {t : Nat} {σ σ' : Int → Int} (h : ∀ i : Int, 0 ≤ i → i < 686 → σ i = σ' i) (h3 : 0 ≤ σ 3 ∧ σ 3 ≤ 6) (h58 : 0 ≤ σ 58 ∧ σ 58 ≤ 12) (hT : Tb z t σ) : Tb z t σ' := by
  obtain ⟨t1, t2, t3, t4⟩ := hT
  unfold Tb
  rw [← h 3 (by decide) (by decide), ← h 58 (by decide) (by decide)]
  refine ⟨t1, t2, fun q hq f f0 f1 => ?_, fun k k0 k1 => ?_⟩
  · rw [← h (4 + 9 * q + f) (by omega) (by omega)]; exact t3 q hq f f0 f1
  · rw [← h (59 + 2 * k) (by omega) (by omega), ← h (60 + 2 * k) (by omega) (by omega)]; exact t4 k k0 k1
theorem St_c {z : Nat → Int → Int} {b : Nat} {σ σ' : Int → Int} (h : ∀ i : Int, 0 ≤ i → i < 686 → σ i = σ' i) (hV : V σ) (hS : St z b σ) : St z b σ' := by
  obtain ⟨⟨s0, s1, s2⟩, sT, st⟩ := hS
  refine ⟨⟨by rw [← h 0 (by decide) (by decide)]; exact s0, by rw [← h 1 (by decide) (by decide)]; exact s1, by rw [← h 2 (by decide) (by decide)]; exact s2⟩, Tb_c h hV.2.2.2.1 hV.2.2.2.2.1 sT, fun s hs => ?_⟩
  have hv := (hV.2.2.2.2.2.2.2 s hs).1
  obtain ⟨a, b⟩ := st s hs
  rw [← h (83 + s) (by omega) (by omega)]
  refine ⟨a, fun i i0 i1 => ?_⟩
  show z _ i = σ' (86 + 200 * s + i)
  rw [← h (86 + 200 * s + i) (by omega) (by omega)]; exact b i i0 i1
/-- what holds between calls -/
def RJ (p : Nat → Nat) (z : Nat → Int → Int) : Prop := ∃ (T : Tx) (n : Int), PB p ∧ V (z 190) ∧ St z (p 0) (z 190) ∧ (0 ≤ n ∧ n ≤ 6) ∧ z 189 2 = n ∧ Hs z p n (pst6 z) ∧ CtB z T ∧ MtB z T ∧ Tg T
theorem isB_f {b k : Nat} (hb : isB b) (h0 : b ≤ k) (h1 : k < b + 18) : (1 ≤ k ∧ k ≤ 18) ∨ (57 ≤ k ∧ k < 165) := by unfold isB at hb; omega
theorem Hs_X {p : Nat → Nat} {z z' : Nat → Int → Int} {n : Int} {h : Int → Int → Int} (hp : PB p) (hn : n ≤ 6) (hF : ∀ k, k ≤ 18 ∨ 57 ≤ k ∧ k < 165 → z' k = z k) (hH : Hs z p n h) : Hs z' p n h := by
  refine ⟨by rw [hF 0 (by omega)]; exact hH.1, fun j hj => ?_⟩
  obtain ⟨a, b⟩ := hH.2 j hj
  refine ⟨a, St_congr a (fun k k0 k1 => ?_) b⟩
  have := isB_f (hp.1 (j + 1) (by omega)) k0 k1
  exact hF k (by omega)
theorem RJ_X {p : Nat → Nat} {z z' : Nat → Int → Int} (hF : FrX z z') (h : RJ p z) : RJ p z' := by
  obtain ⟨T, n, hp, hV, hS, hn, h2, hH, hC, hM, hT⟩ := h
  have e190 := hF 190 (by omega)
  have e189 := hF 189 (by omega)
  have e191 := hF 191 (by omega)
  refine ⟨T, n, hp, by rw [e190]; exact hV, ?_, hn, by rw [e189]; exact h2, ?_, ?_, ?_, hT⟩
  · rw [e190]; exact FrX_S (hp.1 0 (by omega)) hV hF hS
  · have : pst6 z' = pst6 z := by unfold pst6; rw [e191]
    rw [this]; exact Hs_X hp hn.2 (fun k hk => hF k (by omega)) hH
  · exact ⟨by rw [hF 20 (by omega)]; exact hC.1, by rw [hF 21 (by omega)]; exact hC.2⟩
  · exact ⟨by rw [e189]; exact hM.1, by rw [hF 192 (by omega)]; exact hM.2⟩
theorem RJ_Q {p : Nat → Nat} {z z' : Nat → Int → Int} (hF : FrQ z z') (h : RJ p z) : RJ p z' := by
  obtain ⟨T, n, hp, hV, hS, hn, h2, hH, hC, hM, hT⟩ := h
  obtain ⟨f0, f190, f191, f192, f189⟩ := hF
  refine ⟨T, n, hp, by rw [f190]; exact hV, ?_, hn, by rw [f189 2 (by decide)]; exact h2, ?_, ?_, ?_, hT⟩
  · rw [f190]
    exact St_congr hV (fun k k0 k1 => f0 k (by have := isB_f (hp.1 0 (by omega)) k0 k1; omega)) hS
  · have : pst6 z' = pst6 z := by unfold pst6; rw [f191]
    rw [this]; exact Hs_X hp hn.2 (fun k hk => f0 k (by omega)) hH
  · exact ⟨by rw [f0 20 (by omega)]; exact hC.1, by rw [f0 21 (by omega)]; exact hC.2⟩
  · exact ⟨by rw [f189 4 (by decide)]; exact hM.1, by rw [f192]; exact hM.2⟩
/-- both answer alike, and what holds is kept -/
def JT (fx fm : MS → Option (Int32 × MS)) : Prop := ∀ (p : Nat → Nat) (z l : Nat → Int → Int), RJ p z → WP (fx (M p z l)) (fun r => (∃ p1 z1 l1, r.2 = M p1 z1 l1) ∧ WP (fm r.2) (fun r' => r'.1 = r.1 ∧ ∃ p' z' l', r'.2 = M p' z' l' ∧ RJ p' z'))
/-- a call that only asks -/
theorem JT_q {fx fm : MS → Option (Int32 × MS)} (A : (Int → Int) → Int) (hx : ∀ (p : Nat → Nat) (z l : Nat → Int → Int) (σ : Int → Int), isB (p 0) → V σ → St z (p 0) σ → WP (fx (M p z l)) (fun r => ∃ z' l', r = (I3 (A σ), M p z' l') ∧ FrX z z')) (hm : ∀ (p : Nat → Nat) (z l : Nat → Int → Int) (σ : Int → Int), z 190 = σ → V σ → WP (fm (M p z l)) (fun r => ∃ z' l', r = (I3 (A σ), M p z' l') ∧ FrQ z z')) : JT fx fm := by
  intro p z l hJ
  obtain ⟨T, n, hp, hV, hS, hn, h2, hH, hC, hM, hT⟩ := id hJ
  refine W_imp (hx p z l (z 190) (hp.1 0 (by omega)) hV hS) ?_
  rintro _ ⟨z1, l1, rfl, hF⟩
  have hJ1 := RJ_X hF hJ
  have e190 : z1 190 = z 190 := hF 190 (by omega)
  refine ⟨⟨p, z1, l1, rfl⟩, W_imp (hm p z1 l1 (z 190) e190 hV) ?_⟩
  rintro _ ⟨z2, l2, rfl, hQ⟩
  exact ⟨rfl, p, z2, l2, rfl, RJ_Q hQ hJ1⟩
/-- the class changed its state to σ', and saved the one before -/
def CX (p : Nat → Nat) (z : Nat → Int → Int) (n : Int) (h : Int → Int → Int) (σ σ' : Int → Int) (p' : Nat → Nat) (z' : Nat → Int → Int) : Prop := PB p' ∧ St z' (p' 0) σ' ∧ Hs z' p' (hsN n) (hsP n h σ) ∧ (∀ k, 189 ≤ k → z' k = z k) ∧ z' 20 = z 20 ∧ z' 21 = z 21
/-- so did the model -/
def CMo (z : Nat → Int → Int) (n : Int) (σ σ' : Int → Int) (z' : Nat → Int → Int) : Prop := (∀ k, k < 189 → z' k = z k) ∧ z' 192 = z 192 ∧ z' 189 4 = z 189 4 ∧ V σ' ∧ (∀ i, 0 ≤ i → i < 686 → z' 190 i = σ' i) ∧ z' 189 2 = hsN n ∧ ∀ j k, 0 ≤ j → j < hsN n → 0 ≤ k → k < 686 → pst6 z' j k = hsP n (pst6 z) σ j k
theorem hsN_r {n : Int} (h : 0 ≤ n ∧ n ≤ 6) : 0 ≤ hsN n ∧ hsN n ≤ 6 := by unfold hsN; split <;> omega
theorem RJ_C {p p' : Nat → Nat} {z z1 z2 : Nat → Int → Int} {n : Int} {T : Tx} {σ' : Int → Int} (hn : 0 ≤ n ∧ n ≤ 6) (hX : CX p z n (pst6 z) (z 190) σ' p' z1) (hM : CMo z1 n (z 190) σ' z2) (hCt : CtB z T) (hMt : MtB z T) (hT : Tg T) : RJ p' z2 := by
  obtain ⟨hp, hS, hH, hlo, h20, h21⟩ := hX
  obtain ⟨m0, m192, m4, mV, m190, m2, mp⟩ := hM
  have hr := hsN_r hn
  have e190 : ∀ i : Int, 0 ≤ i → i < 686 → σ' i = z2 190 i := fun i i0 i1 => (m190 i i0 i1).symm
  have e191 : pst6 z1 = pst6 z := by unfold pst6; rw [hlo 191 (by omega)]
  refine ⟨T, hsN n, hp, V_c e190 mV, ?_, hr, m2, ?_, ?_, ?_, hT⟩
  · exact St_c e190 mV (St_congr mV (fun k k0 k1 => m0 k (by have := isB_f (hp.1 0 (by omega)) k0 k1; omega)) hS)
  · have h1 := Hs_X hp hr.2 (fun k hk => m0 k (by omega)) hH
    refine ⟨h1.1, fun j hj => ?_⟩
    obtain ⟨a, b⟩ := h1.2 j hj
    have ej : ∀ i : Int, 0 ≤ i → i < 686 → hsP n (pst6 z) (z 190) j i = pst6 z2 j i := fun i i0 i1 => by
      rw [mp j i (by omega) hj i0 i1, e191]
    exact ⟨V_c ej a, St_c ej a b⟩
  · exact ⟨by rw [m0 20 (by omega), h20]; exact hCt.1, by rw [m0 21 (by omega), h21]; exact hCt.2⟩
  · exact ⟨by rw [m4, hlo 189 (by omega)]; exact hMt.1, by rw [m192, hlo 192 (by omega)]; exact hMt.2⟩
/-- a call that may change: it is refused with A, or it goes and answers B -/
theorem JT_c {fx fm : MS → Option (Int32 × MS)} (A : (Int → Int) → Int) (go : (Int → Int) → Prop) (S : (Int → Int) → Int → Int) (hx : ∀ (p : Nat → Nat) (z l : Nat → Int → Int) (σ : Int → Int) (n : Int) (h : Int → Int → Int), PB p → V σ → St z (p 0) σ → 0 ≤ n → n ≤ 6 → Hs z p n h → WP (fx (M p z l)) (fun r => ∃ p' z' l', r = (I3 (A σ), M p' z' l') ∧ ((go σ ∧ CX p z n h σ (S σ) p' z') ∨ (¬go σ ∧ p' = p ∧ FrX z z')))) (hm : ∀ (p : Nat → Nat) (z l : Nat → Int → Int) (σ : Int → Int) (n : Int), z 190 = σ → V σ → z 189 2 = n → 0 ≤ n → n ≤ 6 → WP (fm (M p z l)) (fun r => ∃ z' l', r = (I3 (A σ), M p z' l') ∧ ((go σ ∧ CMo z n σ (S σ) z') ∨ (¬go σ ∧ FrQ z z')))) : JT fx fm := by
  intro p z l hJ
  obtain ⟨T, n, hp, hV, hS, hn, h2, hH, hC, hM, hT⟩ := id hJ
  refine W_imp (hx p z l (z 190) n (pst6 z) hp hV hS hn.1 hn.2 hH) ?_
  rintro _ ⟨p1, z1, l1, rfl, hx⟩
  rcases hx with ⟨hgo, hX⟩ | ⟨hgo, rfl, hX⟩
  · have e190 : z1 190 = z 190 := hX.2.2.2.1 190 (by omega)
    have e189 : z1 189 = z 189 := hX.2.2.2.1 189 (by omega)
    refine ⟨⟨p1, z1, l1, rfl⟩, W_imp (hm p1 z1 l1 (z 190) n e190 hV (by rw [e189]; exact h2) hn.1 hn.2) ?_⟩
    rintro _ ⟨z2, l2, rfl, hm⟩
    rcases hm with ⟨_, hm⟩ | ⟨hno, _⟩
    · exact ⟨rfl, p1, z2, l2, rfl, RJ_C hn hX hm hC hM hT⟩
    · exact absurd hgo hno
  · have e190 : z1 190 = z 190 := hX 190 (by omega)
    have e189 : z1 189 = z 189 := hX 189 (by omega)
    refine ⟨⟨p1, z1, l1, rfl⟩, W_imp (hm p1 z1 l1 (z 190) n e190 hV (by rw [e189]; exact h2) hn.1 hn.2) ?_⟩
    rintro _ ⟨z2, l2, rfl, hm⟩
    rcases hm with ⟨hno, _⟩ | ⟨_, hm⟩
    · exact absurd hno hgo
    · exact ⟨rfl, p1, z2, l2, rfl, RJ_Q hm (RJ_X hX hJ)⟩
