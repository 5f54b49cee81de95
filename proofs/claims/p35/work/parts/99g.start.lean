/-! THE LAW: what the start gives, and the walk from the entry. -/
theorem k_36 : Cond.classLink "PulseRemoteLaw" 11 "PulseRemote" ∈ GW := gw_of (List.mem_of_getElem? (i := 36) (by decide +kernel)) rfl
theorem k_37 : Cond.instantiable "PulseRemote" 12 ∈ GW := gw_of (List.mem_of_getElem? (i := 37) (by decide +kernel)) rfl
theorem k_38 : Cond.methodLink "PulseRemoteLaw" 110 ⟨"PulseRemote", "<init>", "()V"⟩ ∈ GW := gw_of (List.mem_of_getElem? (i := 38) (by decide +kernel)) rfl
/-- what the law's walk stands on -/
def LW (X : BX) (D : va_G) (cy : Nat → ClassId) (b sa : Nat) (sc : SCR) : Prop := BB X D cy b (yLw X) code 18 (some .boolean) room_1 ∧ SCX X b sa sc
set_option maxHeartbeats 4000000 in
set_option maxRecDepth 100000 in
theorem law_start {X : BX} {D : va_G} {cy : Nat → ClassId} {b sa : Nat} {sc : SCR} (hL : LW X D cy b sa sc) : ∃ μ', WW X D cy b (some (.int 1)) μ' 18 189 9227 0 [(0, .ref sa)] [] (mkM ([], [], [])) := by
  obtain ⟨s1, g1, g5⟩ := ini_ok
  obtain ⟨hM, hJ⟩ := chk_M g5
  obtain ⟨hB, hS⟩ := id hL
  obtain ⟨⟨v, μ'⟩, hf, hv⟩ := w_law (l := l00) (Q := fun r => r.1 = I3 1) sc hS.2.2.2 hJ (fun μ => rfl)
  have hv : v = 1 := hv
  subst hv
  have hW := t_L_law_8 (r := some (.int 1)) (μ' := μ') hB hS hf ⟨rfl, rfl⟩
  rw [← hM] at hW
  refine ⟨μ', ?_⟩
  refine WW.mono (kc := 188 + 1) (ks := 9215 + 12) (Nat.le_of_ble_eq_true rfl) (Nat.le_of_ble_eq_true rfl) (q_new (K := some) (R := (0, ([(11, 0)], [], []))) hB cf11 (by decide) (own := "PulseRemoteLaw") rfl k_36 k_37 k_22 (by decide +kernel : decode code 0 = .ok (.new 11, 3)) rfl (fun q hq => ?_))
  rw [Option.some.inj hq]
  refine r_dup hB (by decide +kernel : decode code 3 = .ok (.dup, 1)) rfl ?_
  refine WW.mono (kc := 0 + rmX11_init.cells) (ks := 0 + rmX11_init.slots) (Nat.le_of_ble_eq_true rfl) (Nat.le_of_ble_eq_true rfl) (q_cI (F := some s1) (K := some) (R := s1) hB [] [.ref (b + 0)] (own := "PulseRemoteLaw") rfl cmX11_init hiX11_init rfl (Or.inl k_38) (by decide) rfl (Nat.le_of_ble_eq_true rfl) (by decide +kernel : decode code 4 = .ok (.invokespecial 110, 3)) (fun z hz => m_X11_init _ _ _ _ (by rw [g1]; exact hz)) rfl rfl (fun z hz => ?_))
  rw [Option.some.inj hz]
  refine r_astore_n hB (lv' := [(1, .ref (b + 0)), (0, .ref sa)]) (by decide +kernel : decode code 7 = .ok (.astore_n 1, 1)) rfl (by decide) rfl ?_
  exact WW.sub [1, 0] rfl hW
-- what the start gives
section Env
variable {s : State} {args : Array Value}
theorem one_K (hts : ∀ w ∈ lw_tbl, w.before args s = true) {ci : Nat} {C : String} {T : u_T} {N n : Nat} {ty : Nat → FieldType} (cf : CF ci C T N ty) (w : Cond.instantiable C n ∈ GW) : ∃ r : ClassId × (Nat → Nat), u_Kn s C T N r.1 r.2 := by
  obtain ⟨a, b, h⟩ := u_known (ws := lw_tbl) (T := T) (N := N) hts (fun w hw => (gw_good (cf.2.2.2.2.1 w hw)).1) (hts _ (gw_good w).1)
  exact ⟨(a, b), h⟩
theorem all_K (hts : ∀ w ∈ lw_tbl, w.before args s = true) (c : Nat) : ∃ r : ClassId × (Nat → Nat), ∀ q : vw_C, vwCl[c]? = some q → u_Kn s q.1 q.2.1 q.2.2 r.1 r.2 := by
  have key : ∀ {C : String} {T : u_T} {N : Nat}, vwCl[c]? = some (C, T, N) → (∃ r : ClassId × (Nat → Nat), u_Kn s C T N r.1 r.2) → ∃ r : ClassId × (Nat → Nat), ∀ q : vw_C, vwCl[c]? = some q → u_Kn s q.1 q.2.1 q.2.2 r.1 r.2 := by
    intro C T N h ⟨r, hr⟩
    refine ⟨r, fun q hq => ?_⟩
    rw [h] at hq
    obtain rfl := Option.some.inj hq
    exact hr
  by_cases hc : c < 12
  · have : c = 0 ∨ c = 1 ∨ c = 2 ∨ c = 3 ∨ c = 4 ∨ c = 5 ∨ c = 6 ∨ c = 7 ∨ c = 8 ∨ c = 9 ∨ c = 10 ∨ c = 11 := by omega
    rcases this with rfl | rfl | rfl | rfl | rfl | rfl | rfl | rfl | rfl | rfl | rfl | rfl
    · exact key rfl (one_K hts cf0 k_294)
    · exact key rfl (one_K hts cf1 k_357)
    · exact key rfl (one_K hts cf2 k_222)
    · exact key rfl (one_K hts cf3 k_198)
    · exact key rfl (one_K hts cf4 k_288)
    · exact key rfl (one_K hts cf5 k_252)
    · exact key rfl (one_K hts cf6 k_58)
    · exact key rfl (one_K hts cf7 k_45)
    · exact key rfl (one_K hts cf8 k_51)
    · exact key rfl (one_K hts cf9 k_174)
    · exact key rfl (one_K hts cf10 k_132)
    · exact key rfl (one_K hts cf11 k_37)
  · obtain ⟨r, _⟩ := one_K hts cf11 k_37
    refine ⟨r, fun q hq => ?_⟩
    have := (List.getElem?_eq_some_iff.mp hq).1
    have h12 : vwCl.length = 12 := rfl
    omega
theorem arr_K {t : FieldType} (h : (Cond.arrayClass t).before args s = true) : ∃ cA : ClassId, ArrOfT s cA t ∧ s.vm.findClass ("[" ++ t.toString) = some cA := by
  obtain ⟨c, k, comp, h1, h2, h3⟩ := Cond.arrayClass_spec h
  exact ⟨c, fun n z => ⟨fun k h => (by cases h), k, h2, comp, h3⟩, h1⟩
theorem arr_R {C : String} (h : (Cond.arrayOver (.object C)).before args s = true) : ∃ cA : ClassId, ArrOfT s cA (.object C) ∧ va_RA s cA (.object C) := by
  obtain ⟨comp, c, k, h1, h2, h3, h4, h5⟩ := Cond.arrayOver_spec h
  exact ⟨c, fun n z => ⟨fun k h => (by cases h), k, h3, comp, h4⟩, k, comp, h3, h4, h1, h5⟩
theorem w_57 : Cond.arrayOver (.object "PulseRemote$Protocol") ∈ lw_tbl := List.mem_of_getElem? (i := 57) (by decide +kernel)
theorem w_130 : Cond.arrayOver (.object "PulseRemote$Train") ∈ lw_tbl := List.mem_of_getElem? (i := 130) (by decide +kernel)
theorem w_172 : Cond.arrayOver (.object "PulseRemote$State") ∈ lw_tbl := List.mem_of_getElem? (i := 172) (by decide +kernel)
theorem env_K (hts : ∀ w ∈ lw_tbl, w.before args s = true) : ∃ (D : va_G) (cy : Nat → ClassId), va_K D vwCl (tyA cy) s := by
  obtain ⟨f, hf⟩ := Classical.axiomOfChoice (all_K hts)
  obtain ⟨c14, a14, b14⟩ := arr_K (t := .char) (hts _ (gw_good k_192).1)
  obtain ⟨c15, a15, b15⟩ := arr_K (t := .int) (hts _ (gw_good k_109).1)
  obtain ⟨c16, a16, b16⟩ := arr_K (t := .long) (hts _ (gw_good k_250).1)
  obtain ⟨c18, a18, b18⟩ := arr_R (C := RX6) (hts _ w_57)
  obtain ⟨c19, a19, b19⟩ := arr_R (C := RX7) (hts _ w_172)
  obtain ⟨c20, a20, b20⟩ := arr_R (C := RX10) (hts _ w_130)
  refine ⟨(fun c => (f c).1, fun c => (f c).2), fun t => if t = 14 then c14 else if t = 15 then c15 else if t = 16 then c16 else if t = 18 then c18 else if t = 19 then c19 else c20, fun c q hq => hf c q hq, fun k q hq => ?_⟩
  match k, hq with
  | 0, hq => obtain rfl := Option.some.inj hq; exact ⟨a15, b15⟩
  | 1, hq => obtain rfl := Option.some.inj hq; exact ⟨a14, b14⟩
  | 2, hq => obtain rfl := Option.some.inj hq; exact ⟨a15, b15⟩
  | 3, hq => obtain rfl := Option.some.inj hq; exact ⟨a16, b16⟩
  | 4, hq => obtain rfl := Option.some.inj hq; exact ⟨a15, b15⟩
  | 5, hq => obtain rfl := Option.some.inj hq; exact ⟨a18, b18⟩
  | 6, hq => obtain rfl := Option.some.inj hq; exact ⟨a19, b19⟩
  | 7, hq => obtain rfl := Option.some.inj hq; exact ⟨a20, b20⟩
  | k + 8, hq => simp at hq
theorem nest_on {w : Cond} (h : isNest w = true) : w.onTables = true := by cases w <;> first | rfl | (simp [isNest] at h)
theorem env_N (hts : ∀ w ∈ lw_tbl, w.before args s = true) : NW s.heap.size s :=
  ⟨fun w hw hn => va_Nw.of (nest_on hn) (hts w hw), ⟨va_AO.of (hts _ w_57), va_AO.of (hts _ w_172), va_AO.of (hts _ w_130)⟩, trivial⟩
end Env
theorem drop_L {s s' : State} {L : List Loc} {k n : Nat} (h : s.sameButNew s' L k n) (hJ : ∀ x ∈ L, s.heap.size ≤ x.base) : s.sameButNew s' [] k n := by
  obtain ⟨h1, h2, h3, h4, h5, h6⟩ := h
  refine ⟨h1, h2, h3, h4, h5, fun a c hc => ?_⟩
  obtain ⟨c', hc', hce, hsz, hout⟩ := h6 a c hc
  refine ⟨c', hc', hce, hsz, fun i _ => hout i (fun hmem => ?_)⟩
  have hb : s.heap.size ≤ a := hJ _ hmem
  have ha : a < s.heap.size := (Array.getElem?_eq_some_iff.mp hc).1
  exact absurd ha (Nat.not_lt.mpr hb)
