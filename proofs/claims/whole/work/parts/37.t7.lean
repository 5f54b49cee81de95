/-! printed by wip/whole/gen.py -/
-- PulseRemoteModel.clusters(II)I
set_option maxHeartbeats 4000000 in
set_option maxRecDepth 100000 in
theorem t_X12_clusters_0 {X : BX} {D : va_G} {cy : Nat → ClassId} {b : Nat} {r : Option Value} {μ' : MS} (hB : BB X D cy b yX12_clusters cX12_clusters 3 (some .int) rmX12_clusters) {l0 : Nat} {l1 : Int32} {l2 : Int32} {μ : MS} {z : (Int32 × MS)} (hf : f_X12_clusters l0 l1 l2 μ = some z) (hk : (fun z : Int32 × MS => r = some (.int z.1) ∧ μ' = z.2) z) : WW X D cy b r μ' 3 0 0 0 [(0, .ref (b + l0)), (1, .int l1), (2, .int l2)] [] μ := by
  unfold f_X12_clusters at hf
  refine r_iload_n hB 1 rfl (by decide +kernel : decode cX12_clusters 0 = .ok (.iload_n 1, 1)) rfl ?_
  refine r_cSi hB [.int l1] [] (own := "PulseRemoteModel") rfl cmX12_isSlot smX12_isSlot (Or.inl ⟨rfl, k_1367⟩) (by decide) rfl rfl rfl (Nat.le_of_ble_eq_true rfl) (by decide +kernel : decode cX12_clusters 1 = .ok (.invokestatic 199, 3)) (fun z hz => m_X12_isSlot _ _ _ _ hz) rfl hf (fun z1 hf => ?_)
  refine r_if_eq hB (tgt := 16) (by decide +kernel : decode cX12_clusters 4 = .ok (.ifCond .eq 12, 3)) (by decide) hf (fun _ hf => ?_) (fun _ hf => ?_)
  · refine r_iconst hB (v := (-1)) (by decide +kernel : decode cX12_clusters 16 = .ok (.iconst (-1), 1)) (by decide +kernel) ?_
    obtain rfl := Option.some.inj hf
    obtain ⟨rfl, rfl⟩ := hk
    exact r_iret hB (by decide +kernel : decode cX12_clusters 17 = .ok (.ireturn, 1))
  · refine r_iload_n hB 2 rfl (by decide +kernel : decode cX12_clusters 7 = .ok (.iload_n 2, 1)) rfl ?_
    refine r_iconst hB (v := 0) (by decide +kernel : decode cX12_clusters 8 = .ok (.iconst 0, 1)) (by decide +kernel) ?_
    refine r_iconst hB (v := 1) (by decide +kernel : decode cX12_clusters 9 = .ok (.iconst 1, 1)) (by decide +kernel) ?_
    refine r_cSi hB [.int l2, .int 0, .int 1] [] (own := "PulseRemoteModel") rfl cmX12_in smX12_in (Or.inl ⟨rfl, k_1233⟩) (by decide) rfl rfl rfl (Nat.le_of_ble_eq_true rfl) (by decide +kernel : decode cX12_clusters 10 = .ok (.invokestatic 68, 3)) (fun z hz => m_X12_in _ _ _ _ hz) rfl hf (fun z10 hf => ?_)
    refine r_if_ne hB (tgt := 18) (by decide +kernel : decode cX12_clusters 13 = .ok (.ifCond .ne 5, 3)) (by decide) hf (fun _ hf => ?_) (fun _ hf => ?_)
    · refine r_iconst hB (v := (-1)) (by decide +kernel : decode cX12_clusters 16 = .ok (.iconst (-1), 1)) (by decide +kernel) ?_
      obtain rfl := Option.some.inj hf
      obtain ⟨rfl, rfl⟩ := hk
      exact r_iret hB (by decide +kernel : decode cX12_clusters 17 = .ok (.ireturn, 1))
    · refine r_aload_n hB 0 rfl (by decide +kernel : decode cX12_clusters 18 = .ok (.aload_n 0, 1)) rfl ?_
      refine r_iload_n hB 1 rfl (by decide +kernel : decode cX12_clusters 19 = .ok (.iload_n 1, 1)) rfl ?_
      refine r_cVv hB [.int l1] [] cf12 (own := "PulseRemoteModel") rfl cmX12_opens imX12_opens (Or.inl k_1440) (by decide) rfl rfl rfl (Nat.le_of_ble_eq_true rfl) (by decide +kernel : decode cX12_clusters 20 = .ok (.invokevirtual 277, 3)) (fun z hz => m_X12_opens _ _ _ _ hz) rfl hf (fun z20 hf => ?_)
      refine r_aload_n hB 0 rfl (by decide +kernel : decode cX12_clusters 23 = .ok (.aload_n 0, 1)) rfl ?_
      refine r_gI hB cf12 21 (by decide) (own := "PulseRemoteModel") rfl (Or.inl k_1136) (by decide +kernel) (by decide +kernel : decode cX12_clusters 24 = .ok (.getfield 224, 3)) hf (fun x24 hf => ?_)
      refine r_if_eq hB (tgt := 40) (by decide +kernel : decode cX12_clusters 27 = .ok (.ifCond .eq 13, 3)) (by decide) hf (fun _ hf => ?_) (fun _ hf => ?_)
      · refine r_bipush hB (v := (-2)) (by decide +kernel : decode cX12_clusters 40 = .ok (.bipush (-2), 2)) (by decide +kernel) ?_
        obtain rfl := Option.some.inj hf
        obtain ⟨rfl, rfl⟩ := hk
        exact r_iret hB (by decide +kernel : decode cX12_clusters 42 = .ok (.ireturn, 1))
      · refine r_aload_n hB 0 rfl (by decide +kernel : decode cX12_clusters 30 = .ok (.aload_n 0, 1)) rfl ?_
        refine r_gR hB cf12 20 (by decide) (own := "PulseRemoteModel") rfl (Or.inl k_1135) (by decide +kernel) (by decide +kernel : decode cX12_clusters 31 = .ok (.getfield 41, 3)) hf (fun x31 hf => ?_)
        refine r_iconst hB (v := 0) (by decide +kernel : decode cX12_clusters 34 = .ok (.iconst 0, 1)) (by decide +kernel) ?_
        refine r_iald hB (by decide +kernel : decode cX12_clusters 35 = .ok (.iaload, 1)) hf (fun x35 hf => ?_)
        refine r_iconst hB (v := 5) (by decide +kernel : decode cX12_clusters 36 = .ok (.iconst 5, 1)) (by decide +kernel) ?_
        refine r_icmp_ge hB (tgt := 43) (by decide +kernel : decode cX12_clusters 37 = .ok (.if_icmp .ge 6, 3)) (by decide) hf (fun _ hf => ?_) (fun _ hf => ?_)
        · refine r_aload_n hB 0 rfl (by decide +kernel : decode cX12_clusters 43 = .ok (.aload_n 0, 1)) rfl ?_
          refine r_iload_n hB 2 rfl (by decide +kernel : decode cX12_clusters 44 = .ok (.iload_n 2, 1)) rfl ?_
          refine r_cVv hB [.int l2] [] cf12 (own := "PulseRemoteModel") rfl cmX12_findsClusters imX12_findsClusters (Or.inl k_1525) (by decide) rfl rfl rfl (Nat.le_of_ble_eq_true rfl) (by decide +kernel : decode cX12_clusters 45 = .ok (.invokevirtual 300, 3)) (fun z hz => m_X12_findsClusters _ _ _ _ hz) rfl hf (fun z45 hf => ?_)
          refine r_aload_n hB 0 rfl (by decide +kernel : decode cX12_clusters 48 = .ok (.aload_n 0, 1)) rfl ?_
          refine r_gI hB cf12 34 (by decide) (own := "PulseRemoteModel") rfl (Or.inl k_1149) (by decide +kernel) (by decide +kernel : decode cX12_clusters 49 = .ok (.getfield 297, 3)) hf (fun x49 hf => ?_)
          obtain rfl := Option.some.inj hf
          obtain ⟨rfl, rfl⟩ := hk
          exact r_iret hB (by decide +kernel : decode cX12_clusters 52 = .ok (.ireturn, 1))
        · refine r_bipush hB (v := (-2)) (by decide +kernel : decode cX12_clusters 40 = .ok (.bipush (-2), 2)) (by decide +kernel) ?_
          obtain rfl := Option.some.inj hf
          obtain ⟨rfl, rfl⟩ := hk
          exact r_iret hB (by decide +kernel : decode cX12_clusters 42 = .ok (.ireturn, 1))
theorem m_X12_clusters (l : Launch) (D : va_G) (cy : Nat → ClassId) (b : Nat) {l0 : Nat} {l1 : Int32} {l2 : Int32} {μ : MS} {z : Int32 × MS} (hf : f_X12_clusters l0 l1 l2 μ = some z) : Met l yX12_clusters (.code yX12_clusters cX12_clusters 3 (some .int) :: GW) rmX12_clusters (Pw D cy b [.ref (b + l0), .int l1, .int l2] μ) (Qw D cy b (some (.int z.1)) (z.2)) rmX12_clusters.cells rmX12_clusters.slots (fun q => b ≤ q) :=
  met_of (by decide) (Nat.le_of_ble_eq_true rfl) (fun X hB _ => (t_X12_clusters_0 hB hf ⟨rfl, rfl⟩))
-- PulseRemoteModel.learn(I)I
set_option maxHeartbeats 4000000 in
set_option maxRecDepth 100000 in
theorem t_X12_learn_287 {X : BX} {D : va_G} {cy : Nat → ClassId} {b : Nat} {r : Option Value} {μ' : MS} (hB : BB X D cy b yX12_learn cX12_learn 12 (some .int) rmX12_learn) {l0 : Nat} {l7 : Int32} {l8 : Int32} {l9 : Int32} {l10 : Int32} {l11 : Int32} {s0 : Int32} {s1 : Int32} {s2 : Nat} {μ : MS} {z : (Int32 × MS)} (hf : f_X12_learn_287 l0 l7 l8 l9 l10 l11 s0 s1 s2 μ = some z) (hk : (fun z : Int32 × MS => r = some (.int z.1) ∧ μ' = z.2) z) : WW X D cy b r μ' 12 0 0 287 [(0, .ref (b + l0)), (7, .int l7), (8, .int l8), (9, .int l9), (10, .int l10), (11, .int l11)] [.int s0, .int s1, .ref (b + s2)] μ := by
  unfold f_X12_learn_287 at hf
  refine r_iconst hB (v := 0) (by decide +kernel : decode cX12_learn 287 = .ok (.iconst 0, 1)) (by decide +kernel) ?_
  refine r_iconst hB (v := 0) (by decide +kernel : decode cX12_learn 288 = .ok (.iconst 0, 1)) (by decide +kernel) ?_
  refine r_cVv hB [.int s1, .int s0, .int 0, .int 0] [] cf12 (own := "PulseRemoteModel") rfl cmX12_addsProtocol imX12_addsProtocol (Or.inl k_1240) (by decide) rfl rfl rfl (Nat.le_of_ble_eq_true rfl) (by decide +kernel : decode cX12_learn 289 = .ok (.invokevirtual 83, 3)) (fun z hz => m_X12_addsProtocol _ _ _ _ hz) rfl hf (fun z289 hf => ?_)
  refine r_aload_n hB 0 rfl (by decide +kernel : decode cX12_learn 292 = .ok (.aload_n 0, 1)) rfl ?_
  refine r_aload_n hB 0 rfl (by decide +kernel : decode cX12_learn 293 = .ok (.aload_n 0, 1)) rfl ?_
  refine r_gR hB cf12 0 (by decide) (own := "PulseRemoteModel") rfl (Or.inl k_1115) (by decide +kernel) (by decide +kernel : decode cX12_learn 294 = .ok (.getfield 7, 3)) hf (fun x294 hf => ?_)
  refine r_iconst hB (v := 3) (by decide +kernel : decode cX12_learn 297 = .ok (.iconst 3, 1)) (by decide +kernel) ?_
  refine r_iald hB (by decide +kernel : decode cX12_learn 298 = .ok (.iaload, 1)) hf (fun x298 hf => ?_)
  refine r_iconst hB (v := 1) (by decide +kernel : decode cX12_learn 299 = .ok (.iconst 1, 1)) (by decide +kernel) ?_
  refine r_isub hB (by decide +kernel : decode cX12_learn 300 = .ok (.isub, 1)) ?_
  refine r_iload hB 4 rfl (by decide +kernel : decode cX12_learn 301 = .ok (.iload 10, 2)) ?_
  refine r_iload hB 5 rfl (by decide +kernel : decode cX12_learn 303 = .ok (.iload 11, 2)) ?_
  refine r_iload hB 1 rfl (by decide +kernel : decode cX12_learn 305 = .ok (.iload 7, 2)) ?_
  refine r_iload hB 2 rfl (by decide +kernel : decode cX12_learn 307 = .ok (.iload 8, 2)) ?_
  refine r_iload hB 3 rfl (by decide +kernel : decode cX12_learn 309 = .ok (.iload 9, 2)) ?_
  refine r_cVv hB [.int (x298 - 1), .int l10, .int l11, .int l7, .int l8, .int l9] [] cf12 (own := "PulseRemoteModel") rfl cmX12_setsLengths imX12_setsLengths (Or.inl k_1247) (by decide) rfl rfl rfl (Nat.le_of_ble_eq_true rfl) (by decide +kernel : decode cX12_learn 311 = .ok (.invokevirtual 87, 3)) (fun z hz => m_X12_setsLengths _ _ _ _ hz) rfl hf (fun z311 hf => ?_)
  refine r_aload_n hB 0 rfl (by decide +kernel : decode cX12_learn 314 = .ok (.aload_n 0, 1)) rfl ?_
  refine r_gR hB cf12 0 (by decide) (own := "PulseRemoteModel") rfl (Or.inl k_1115) (by decide +kernel) (by decide +kernel : decode cX12_learn 315 = .ok (.getfield 7, 3)) hf (fun x315 hf => ?_)
  refine r_iconst hB (v := 3) (by decide +kernel : decode cX12_learn 318 = .ok (.iconst 3, 1)) (by decide +kernel) ?_
  refine r_iald hB (by decide +kernel : decode cX12_learn 319 = .ok (.iaload, 1)) hf (fun x319 hf => ?_)
  refine r_iconst hB (v := 1) (by decide +kernel : decode cX12_learn 320 = .ok (.iconst 1, 1)) (by decide +kernel) ?_
  refine r_isub hB (by decide +kernel : decode cX12_learn 321 = .ok (.isub, 1)) ?_
  obtain rfl := Option.some.inj hf
  obtain ⟨rfl, rfl⟩ := hk
  exact r_iret hB (by decide +kernel : decode cX12_learn 322 = .ok (.ireturn, 1))
set_option maxHeartbeats 4000000 in
set_option maxRecDepth 100000 in
theorem t_X12_learn_259 {X : BX} {D : va_G} {cy : Nat → ClassId} {b : Nat} {r : Option Value} {μ' : MS} (hB : BB X D cy b yX12_learn cX12_learn 12 (some .int) rmX12_learn) {l0 : Nat} {l5 : Int32} {l7 : Int32} {l8 : Int32} {l9 : Int32} {l10 : Int32} {l11 : Int32} {s0 : Int32} {s1 : Nat} {μ : MS} {z : (Int32 × MS)} (hf : f_X12_learn_259 l0 l5 l7 l8 l9 l10 l11 s0 s1 μ = some z) (hk : (fun z : Int32 × MS => r = some (.int z.1) ∧ μ' = z.2) z) : WW X D cy b r μ' 12 0 0 259 [(0, .ref (b + l0)), (5, .int l5), (7, .int l7), (8, .int l8), (9, .int l9), (10, .int l10), (11, .int l11)] [.int s0, .ref (b + s1)] μ := by
  unfold f_X12_learn_259 at hf
  refine r_iload hB 1 rfl (by decide +kernel : decode cX12_learn 259 = .ok (.iload 5, 2)) ?_
  refine r_if_eq hB (tgt := 277) (by decide +kernel : decode cX12_learn 261 = .ok (.ifCond .eq 16, 3)) (by decide) hf (fun _ hf => ?_) (fun _ hf => ?_)
  · refine r_aload_n hB 0 rfl (by decide +kernel : decode cX12_learn 277 = .ok (.aload_n 0, 1)) rfl ?_
    refine r_gR hB cf12 20 (by decide) (own := "PulseRemoteModel") rfl (Or.inl k_1135) (by decide +kernel) (by decide +kernel : decode cX12_learn 278 = .ok (.getfield 41, 3)) hf (fun x278 hf => ?_)
    refine r_iconst hB (v := 0) (by decide +kernel : decode cX12_learn 281 = .ok (.iconst 0, 1)) (by decide +kernel) ?_
    refine r_iald hB (by decide +kernel : decode cX12_learn 282 = .ok (.iaload, 1)) hf (fun x282 hf => ?_)
    refine r_iconst hB (v := 1) (by decide +kernel : decode cX12_learn 283 = .ok (.iconst 1, 1)) (by decide +kernel) ?_
    refine r_isub hB (by decide +kernel : decode cX12_learn 284 = .ok (.isub, 1)) ?_
    refine r_iconst hB (v := 2) (by decide +kernel : decode cX12_learn 285 = .ok (.iconst 2, 1)) (by decide +kernel) ?_
    refine r_idiv hB (by decide +kernel : decode cX12_learn 286 = .ok (.idiv, 1)) hf (fun v286 hf => ?_)
    exact WW.sub [0, 2, 3, 4, 5, 6] rfl (t_X12_learn_287 hB hf hk)
  · refine r_aload_n hB 0 rfl (by decide +kernel : decode cX12_learn 264 = .ok (.aload_n 0, 1)) rfl ?_
    refine r_gR hB cf12 20 (by decide) (own := "PulseRemoteModel") rfl (Or.inl k_1135) (by decide +kernel) (by decide +kernel : decode cX12_learn 265 = .ok (.getfield 41, 3)) hf (fun x265 hf => ?_)
    refine r_iconst hB (v := 0) (by decide +kernel : decode cX12_learn 268 = .ok (.iconst 0, 1)) (by decide +kernel) ?_
    refine r_iald hB (by decide +kernel : decode cX12_learn 269 = .ok (.iaload, 1)) hf (fun x269 hf => ?_)
    refine r_iconst hB (v := 3) (by decide +kernel : decode cX12_learn 270 = .ok (.iconst 3, 1)) (by decide +kernel) ?_
    refine r_isub hB (by decide +kernel : decode cX12_learn 271 = .ok (.isub, 1)) ?_
    refine r_iconst hB (v := 2) (by decide +kernel : decode cX12_learn 272 = .ok (.iconst 2, 1)) (by decide +kernel) ?_
    refine r_idiv hB (by decide +kernel : decode cX12_learn 273 = .ok (.idiv, 1)) hf (fun v273 hf => ?_)
    refine r_goto hB (tgt := 287) (by decide +kernel : decode cX12_learn 274 = .ok (.goto 13, 3)) (by decide) ?_
    exact WW.sub [0, 2, 3, 4, 5, 6] rfl (t_X12_learn_287 hB hf hk)
set_option maxHeartbeats 4000000 in
set_option maxRecDepth 100000 in
theorem t_X12_learn_210 {X : BX} {D : va_G} {cy : Nat → ClassId} {b : Nat} {r : Option Value} {μ' : MS} (hB : BB X D cy b yX12_learn cX12_learn 12 (some .int) rmX12_learn) {l0 : Nat} {l5 : Int32} {l7 : Int32} {l8 : Int32} {l9 : Int32} {l10 : Int32} {l11 : Int32} {μ : MS} {z : (Int32 × MS)} (hf : f_X12_learn_210 l0 l5 l7 l8 l9 l10 l11 μ = some z) (hk : (fun z : Int32 × MS => r = some (.int z.1) ∧ μ' = z.2) z) : WW X D cy b r μ' 12 0 0 210 [(0, .ref (b + l0)), (5, .int l5), (7, .int l7), (8, .int l8), (9, .int l9), (10, .int l10), (11, .int l11)] [] μ := by
  unfold f_X12_learn_210 at hf
  refine r_iconst hB (v := 0) (by decide +kernel : decode cX12_learn 210 = .ok (.iconst 0, 1)) (by decide +kernel) ?_
  refine r_iload hB 5 rfl (by decide +kernel : decode cX12_learn 211 = .ok (.iload 10, 2)) ?_
  refine r_iload hB 6 rfl (by decide +kernel : decode cX12_learn 213 = .ok (.iload 11, 2)) ?_
  refine r_iload hB 2 rfl (by decide +kernel : decode cX12_learn 215 = .ok (.iload 7, 2)) ?_
  refine r_iload hB 3 rfl (by decide +kernel : decode cX12_learn 217 = .ok (.iload 8, 2)) ?_
  refine r_iload hB 4 rfl (by decide +kernel : decode cX12_learn 219 = .ok (.iload 9, 2)) ?_
  refine r_cSi hB [.int 0, .int l10, .int l11, .int l7, .int l8, .int l9] [] (own := "PulseRemoteModel") rfl cmX12_areLengths smX12_areLengths (Or.inl ⟨rfl, k_1259⟩) (by decide) rfl rfl rfl (Nat.le_of_ble_eq_true rfl) (by decide +kernel : decode cX12_learn 221 = .ok (.invokestatic 94, 3)) (fun z hz => m_X12_areLengths _ _ _ _ hz) rfl hf (fun z221 hf => ?_)
  refine r_if_ne hB (tgt := 230) (by decide +kernel : decode cX12_learn 224 = .ok (.ifCond .ne 6, 3)) (by decide) hf (fun _ hf => ?_) (fun _ hf => ?_)
  · refine r_bipush hB (v := (-2)) (by decide +kernel : decode cX12_learn 227 = .ok (.bipush (-2), 2)) (by decide +kernel) ?_
    obtain rfl := Option.some.inj hf
    obtain ⟨rfl, rfl⟩ := hk
    exact r_iret hB (by decide +kernel : decode cX12_learn 229 = .ok (.ireturn, 1))
  · refine r_aload_n hB 0 rfl (by decide +kernel : decode cX12_learn 230 = .ok (.aload_n 0, 1)) rfl ?_
    refine r_gR hB cf12 0 (by decide) (own := "PulseRemoteModel") rfl (Or.inl k_1115) (by decide +kernel) (by decide +kernel : decode cX12_learn 231 = .ok (.getfield 7, 3)) hf (fun x231 hf => ?_)
    refine r_iconst hB (v := 3) (by decide +kernel : decode cX12_learn 234 = .ok (.iconst 3, 1)) (by decide +kernel) ?_
    refine r_iald hB (by decide +kernel : decode cX12_learn 235 = .ok (.iaload, 1)) hf (fun x235 hf => ?_)
    refine r_bipush hB (v := 6) (by decide +kernel : decode cX12_learn 236 = .ok (.bipush 6, 2)) (by decide +kernel) ?_
    refine r_icmp_ne hB (tgt := 244) (by decide +kernel : decode cX12_learn 238 = .ok (.if_icmp .ne 6, 3)) (by decide) hf (fun _ hf => ?_) (fun _ hf => ?_)
    · refine r_bipush hB (v := (-3)) (by decide +kernel : decode cX12_learn 241 = .ok (.bipush (-3), 2)) (by decide +kernel) ?_
      obtain rfl := Option.some.inj hf
      obtain ⟨rfl, rfl⟩ := hk
      exact r_iret hB (by decide +kernel : decode cX12_learn 243 = .ok (.ireturn, 1))
    · refine r_aload_n hB 0 rfl (by decide +kernel : decode cX12_learn 244 = .ok (.aload_n 0, 1)) rfl ?_
      refine r_cVv hB [] [] cf12 (own := "PulseRemoteModel") rfl cmX12_note imX12_note (Or.inl k_1236) (by decide) rfl rfl rfl (Nat.le_of_ble_eq_true rfl) (by decide +kernel : decode cX12_learn 245 = .ok (.invokevirtual 80, 3)) (fun z hz => m_X12_note _ _ _ _ hz) rfl hf (fun z245 hf => ?_)
      refine r_aload_n hB 0 rfl (by decide +kernel : decode cX12_learn 248 = .ok (.aload_n 0, 1)) rfl ?_
      refine r_iload hB 1 rfl (by decide +kernel : decode cX12_learn 249 = .ok (.iload 5, 2)) ?_
      refine r_if_eq hB (tgt := 258) (by decide +kernel : decode cX12_learn 251 = .ok (.ifCond .eq 7, 3)) (by decide) hf (fun _ hf => ?_) (fun _ hf => ?_)
      · refine r_iconst hB (v := 1) (by decide +kernel : decode cX12_learn 258 = .ok (.iconst 1, 1)) (by decide +kernel) ?_
        exact WW.sub [0, 1, 2, 3, 4, 5, 6] rfl (t_X12_learn_259 hB hf hk)
      · refine r_iconst hB (v := 0) (by decide +kernel : decode cX12_learn 254 = .ok (.iconst 0, 1)) (by decide +kernel) ?_
        refine r_goto hB (tgt := 259) (by decide +kernel : decode cX12_learn 255 = .ok (.goto 4, 3)) (by decide) ?_
        exact WW.sub [0, 1, 2, 3, 4, 5, 6] rfl (t_X12_learn_259 hB hf hk)
set_option maxHeartbeats 4000000 in
set_option maxRecDepth 100000 in
theorem t_X12_learn_184 {X : BX} {D : va_G} {cy : Nat → ClassId} {b : Nat} {r : Option Value} {μ' : MS} (hB : BB X D cy b yX12_learn cX12_learn 12 (some .int) rmX12_learn) {l0 : Nat} {l5 : Int32} {l6 : Int32} {l7 : Int32} {l8 : Int32} {s0 : Int32} {μ : MS} {z : (Int32 × MS)} (hf : f_X12_learn_184 l0 l5 l6 l7 l8 s0 μ = some z) (hk : (fun z : Int32 × MS => r = some (.int z.1) ∧ μ' = z.2) z) : WW X D cy b r μ' 12 0 0 184 [(0, .ref (b + l0)), (5, .int l5), (6, .int l6), (7, .int l7), (8, .int l8)] [.int s0] μ := by
  unfold f_X12_learn_184 at hf
  refine r_istore hB (by decide +kernel : decode cX12_learn 184 = .ok (.istore 9, 2)) (by decide) rfl ?_
  refine ww_lv (lv' := [(9, .int s0), (0, .ref (b + l0)), (5, .int l5), (6, .int l6), (7, .int l7), (8, .int l8)]) rfl ?_
  refine r_aload_n hB 1 rfl (by decide +kernel : decode cX12_learn 186 = .ok (.aload_n 0, 1)) rfl ?_
  refine r_iconst hB (v := 0) (by decide +kernel : decode cX12_learn 187 = .ok (.iconst 0, 1)) (by decide +kernel) ?_
  refine r_cVi hB [.int 0] [] cf12 (own := "PulseRemoteModel") rfl cmX12_meanOf imX12_meanOf (Or.inl k_1533) (by decide) rfl rfl rfl (Nat.le_of_ble_eq_true rfl) (by decide +kernel : decode cX12_learn 188 = .ok (.invokevirtual 303, 3)) (fun z hz => m_X12_meanOf _ _ _ _ hz) rfl hf (fun z188 hf => ?_)
  refine r_istore hB (by decide +kernel : decode cX12_learn 191 = .ok (.istore 10, 2)) (by decide) rfl ?_
  refine ww_lv (lv' := [(10, .int z188.1), (9, .int s0), (0, .ref (b + l0)), (5, .int l5), (6, .int l6), (7, .int l7), (8, .int l8)]) rfl ?_
  refine r_aload_n hB 2 rfl (by decide +kernel : decode cX12_learn 193 = .ok (.aload_n 0, 1)) rfl ?_
  refine r_iconst hB (v := 1) (by decide +kernel : decode cX12_learn 194 = .ok (.iconst 1, 1)) (by decide +kernel) ?_
  refine r_cVi hB [.int 1] [] cf12 (own := "PulseRemoteModel") rfl cmX12_meanOf imX12_meanOf (Or.inl k_1533) (by decide) rfl rfl rfl (Nat.le_of_ble_eq_true rfl) (by decide +kernel : decode cX12_learn 195 = .ok (.invokevirtual 303, 3)) (fun z hz => m_X12_meanOf _ _ _ _ hz) rfl hf (fun z195 hf => ?_)
  refine r_istore hB (by decide +kernel : decode cX12_learn 198 = .ok (.istore 11, 2)) (by decide) rfl ?_
  refine ww_lv (lv' := [(11, .int z195.1), (10, .int z188.1), (9, .int s0), (0, .ref (b + l0)), (5, .int l5), (6, .int l6), (7, .int l7), (8, .int l8)]) rfl ?_
  refine r_iload hB 4 rfl (by decide +kernel : decode cX12_learn 200 = .ok (.iload 5, 2)) ?_
  refine r_if_ne hB (tgt := 210) (by decide +kernel : decode cX12_learn 202 = .ok (.ifCond .ne 8, 3)) (by decide) hf (fun _ hf => ?_) (fun _ hf => ?_)
  · refine r_iload hB 5 rfl (by decide +kernel : decode cX12_learn 205 = .ok (.iload 6, 2)) ?_
    refine r_if_eq hB (tgt := 227) (by decide +kernel : decode cX12_learn 207 = .ok (.ifCond .eq 20, 3)) (by decide) hf (fun _ hf => ?_) (fun _ hf => ?_)
    · refine r_bipush hB (v := (-2)) (by decide +kernel : decode cX12_learn 227 = .ok (.bipush (-2), 2)) (by decide +kernel) ?_
      obtain rfl := Option.some.inj hf
      obtain ⟨rfl, rfl⟩ := hk
      exact r_iret hB (by decide +kernel : decode cX12_learn 229 = .ok (.ireturn, 1))
    · exact WW.sub [3, 4, 6, 7, 2, 1, 0] rfl (t_X12_learn_210 hB hf hk)
  · exact WW.sub [3, 4, 6, 7, 2, 1, 0] rfl (t_X12_learn_210 hB hf hk)
set_option maxHeartbeats 4000000 in
set_option maxRecDepth 100000 in
theorem t_X12_learn_166 {X : BX} {D : va_G} {cy : Nat → ClassId} {b : Nat} {r : Option Value} {μ' : MS} (hB : BB X D cy b yX12_learn cX12_learn 12 (some .int) rmX12_learn) {l0 : Nat} {l4 : Int32} {l5 : Int32} {l6 : Int32} {l7 : Int32} {s0 : Int32} {μ : MS} {z : (Int32 × MS)} (hf : f_X12_learn_166 l0 l4 l5 l6 l7 s0 μ = some z) (hk : (fun z : Int32 × MS => r = some (.int z.1) ∧ μ' = z.2) z) : WW X D cy b r μ' 12 0 0 166 [(0, .ref (b + l0)), (4, .int l4), (5, .int l5), (6, .int l6), (7, .int l7)] [.int s0] μ := by
  unfold f_X12_learn_166 at hf
  refine r_istore hB (by decide +kernel : decode cX12_learn 166 = .ok (.istore 8, 2)) (by decide) rfl ?_
  refine ww_lv (lv' := [(8, .int s0), (0, .ref (b + l0)), (4, .int l4), (5, .int l5), (6, .int l6), (7, .int l7)]) rfl ?_
  refine r_iload hB 3 rfl (by decide +kernel : decode cX12_learn 168 = .ok (.iload 5, 2)) ?_
  refine r_if_eq hB (tgt := 182) (by decide +kernel : decode cX12_learn 170 = .ok (.ifCond .eq 12, 3)) (by decide) hf (fun _ hf => ?_) (fun _ hf => ?_)
  · refine r_iload hB 2 rfl (by decide +kernel : decode cX12_learn 182 = .ok (.iload 4, 2)) ?_
    exact WW.sub [1, 3, 4, 5, 0] rfl (t_X12_learn_184 hB hf hk)
  · refine r_aload_n hB 1 rfl (by decide +kernel : decode cX12_learn 173 = .ok (.aload_n 0, 1)) rfl ?_
    refine r_gR hB cf12 35 (by decide) (own := "PulseRemoteModel") rfl (Or.inl k_1150) (by decide +kernel) (by decide +kernel : decode cX12_learn 174 = .ok (.getfield 60, 3)) hf (fun x174 hf => ?_)
    refine r_iconst hB (v := 1) (by decide +kernel : decode cX12_learn 177 = .ok (.iconst 1, 1)) (by decide +kernel) ?_
    refine r_iald hB (by decide +kernel : decode cX12_learn 178 = .ok (.iaload, 1)) hf (fun x178 hf => ?_)
    refine r_goto hB (tgt := 184) (by decide +kernel : decode cX12_learn 179 = .ok (.goto 5, 3)) (by decide) ?_
    exact WW.sub [1, 3, 4, 5, 0] rfl (t_X12_learn_184 hB hf hk)
set_option maxHeartbeats 4000000 in
set_option maxRecDepth 100000 in
theorem t_X12_learn_149 {X : BX} {D : va_G} {cy : Nat → ClassId} {b : Nat} {r : Option Value} {μ' : MS} (hB : BB X D cy b yX12_learn cX12_learn 12 (some .int) rmX12_learn) {l0 : Nat} {l3 : Int32} {l4 : Int32} {l5 : Int32} {l6 : Int32} {s0 : Int32} {μ : MS} {z : (Int32 × MS)} (hf : f_X12_learn_149 l0 l3 l4 l5 l6 s0 μ = some z) (hk : (fun z : Int32 × MS => r = some (.int z.1) ∧ μ' = z.2) z) : WW X D cy b r μ' 12 0 0 149 [(0, .ref (b + l0)), (3, .int l3), (4, .int l4), (5, .int l5), (6, .int l6)] [.int s0] μ := by
  unfold f_X12_learn_149 at hf
  refine r_istore hB (by decide +kernel : decode cX12_learn 149 = .ok (.istore 7, 2)) (by decide) rfl ?_
  refine ww_lv (lv' := [(7, .int s0), (0, .ref (b + l0)), (3, .int l3), (4, .int l4), (5, .int l5), (6, .int l6)]) rfl ?_
  refine r_iload hB 4 rfl (by decide +kernel : decode cX12_learn 151 = .ok (.iload 5, 2)) ?_
  refine r_if_eq hB (tgt := 165) (by decide +kernel : decode cX12_learn 153 = .ok (.ifCond .eq 12, 3)) (by decide) hf (fun _ hf => ?_) (fun _ hf => ?_)
  · refine r_iload_n hB 2 rfl (by decide +kernel : decode cX12_learn 165 = .ok (.iload_n 3, 1)) rfl ?_
    exact WW.sub [1, 3, 4, 5, 0] rfl (t_X12_learn_166 hB hf hk)
  · refine r_aload_n hB 1 rfl (by decide +kernel : decode cX12_learn 156 = .ok (.aload_n 0, 1)) rfl ?_
    refine r_gR hB cf12 35 (by decide) (own := "PulseRemoteModel") rfl (Or.inl k_1150) (by decide +kernel) (by decide +kernel : decode cX12_learn 157 = .ok (.getfield 60, 3)) hf (fun x157 hf => ?_)
    refine r_iconst hB (v := 0) (by decide +kernel : decode cX12_learn 160 = .ok (.iconst 0, 1)) (by decide +kernel) ?_
    refine r_iald hB (by decide +kernel : decode cX12_learn 161 = .ok (.iaload, 1)) hf (fun x161 hf => ?_)
    refine r_goto hB (tgt := 166) (by decide +kernel : decode cX12_learn 162 = .ok (.goto 4, 3)) (by decide) ?_
    exact WW.sub [1, 3, 4, 5, 0] rfl (t_X12_learn_166 hB hf hk)
set_option maxHeartbeats 4000000 in
set_option maxRecDepth 100000 in
theorem t_X12_learn_132 {X : BX} {D : va_G} {cy : Nat → ClassId} {b : Nat} {r : Option Value} {μ' : MS} (hB : BB X D cy b yX12_learn cX12_learn 12 (some .int) rmX12_learn) {l0 : Nat} {l3 : Int32} {l4 : Int32} {l5 : Int32} {s0 : Int32} {μ : MS} {z : (Int32 × MS)} (hf : f_X12_learn_132 l0 l3 l4 l5 s0 μ = some z) (hk : (fun z : Int32 × MS => r = some (.int z.1) ∧ μ' = z.2) z) : WW X D cy b r μ' 12 0 0 132 [(0, .ref (b + l0)), (3, .int l3), (4, .int l4), (5, .int l5)] [.int s0] μ := by
  unfold f_X12_learn_132 at hf
  refine r_istore hB (by decide +kernel : decode cX12_learn 132 = .ok (.istore 6, 2)) (by decide) rfl ?_
  refine ww_lv (lv' := [(6, .int s0), (0, .ref (b + l0)), (3, .int l3), (4, .int l4), (5, .int l5)]) rfl ?_
  refine r_iload hB 4 rfl (by decide +kernel : decode cX12_learn 134 = .ok (.iload 5, 2)) ?_
  refine r_if_eq hB (tgt := 143) (by decide +kernel : decode cX12_learn 136 = .ok (.ifCond .eq 7, 3)) (by decide) hf (fun _ hf => ?_) (fun _ hf => ?_)
  · refine r_aload_n hB 1 rfl (by decide +kernel : decode cX12_learn 143 = .ok (.aload_n 0, 1)) rfl ?_
    refine r_gR hB cf12 35 (by decide) (own := "PulseRemoteModel") rfl (Or.inl k_1150) (by decide +kernel) (by decide +kernel : decode cX12_learn 144 = .ok (.getfield 60, 3)) hf (fun x144 hf => ?_)
    refine r_iconst hB (v := 0) (by decide +kernel : decode cX12_learn 147 = .ok (.iconst 0, 1)) (by decide +kernel) ?_
    refine r_iald hB (by decide +kernel : decode cX12_learn 148 = .ok (.iaload, 1)) hf (fun x148 hf => ?_)
    exact WW.sub [1, 2, 3, 4, 0] rfl (t_X12_learn_149 hB hf hk)
  · refine r_iload_n hB 2 rfl (by decide +kernel : decode cX12_learn 139 = .ok (.iload_n 3, 1)) rfl ?_
    refine r_goto hB (tgt := 149) (by decide +kernel : decode cX12_learn 140 = .ok (.goto 9, 3)) (by decide) ?_
    exact WW.sub [1, 2, 3, 4, 0] rfl (t_X12_learn_149 hB hf hk)
set_option maxHeartbeats 4000000 in
set_option maxRecDepth 100000 in
theorem t_X12_learn_131 {X : BX} {D : va_G} {cy : Nat → ClassId} {b : Nat} {r : Option Value} {μ' : MS} (hB : BB X D cy b yX12_learn cX12_learn 12 (some .int) rmX12_learn) {l0 : Nat} {l3 : Int32} {l4 : Int32} {l5 : Int32} {μ : MS} {z : (Int32 × MS)} (hf : f_X12_learn_131 l0 l3 l4 l5 μ = some z) (hk : (fun z : Int32 × MS => r = some (.int z.1) ∧ μ' = z.2) z) : WW X D cy b r μ' 12 0 0 131 [(0, .ref (b + l0)), (3, .int l3), (4, .int l4), (5, .int l5)] [] μ := by
  unfold f_X12_learn_131 at hf
  refine r_iconst hB (v := 0) (by decide +kernel : decode cX12_learn 131 = .ok (.iconst 0, 1)) (by decide +kernel) ?_
  exact WW.sub [0, 1, 2, 3] rfl (t_X12_learn_132 hB hf hk)
set_option maxHeartbeats 4000000 in
set_option maxRecDepth 100000 in
theorem t_X12_learn_97 {X : BX} {D : va_G} {cy : Nat → ClassId} {b : Nat} {r : Option Value} {μ' : MS} (hB : BB X D cy b yX12_learn cX12_learn 12 (some .int) rmX12_learn) {l0 : Nat} {l2 : Int32} {l3 : Int32} {l4 : Int32} {s0 : Int32} {μ : MS} {z : (Int32 × MS)} (hf : f_X12_learn_97 l0 l2 l3 l4 s0 μ = some z) (hk : (fun z : Int32 × MS => r = some (.int z.1) ∧ μ' = z.2) z) : WW X D cy b r μ' 12 0 0 97 [(0, .ref (b + l0)), (2, .int l2), (3, .int l3), (4, .int l4)] [.int s0] μ := by
  unfold f_X12_learn_97 at hf
  refine r_istore hB (by decide +kernel : decode cX12_learn 97 = .ok (.istore 5, 2)) (by decide) rfl ?_
  refine ww_lv (lv' := [(5, .int s0), (0, .ref (b + l0)), (2, .int l2), (3, .int l3), (4, .int l4)]) rfl ?_
  refine r_iload_n hB 2 rfl (by decide +kernel : decode cX12_learn 99 = .ok (.iload_n 2, 1)) rfl ?_
  refine r_iconst hB (v := 2) (by decide +kernel : decode cX12_learn 100 = .ok (.iconst 2, 1)) (by decide +kernel) ?_
  refine r_icmp_ne hB (tgt := 131) (by decide +kernel : decode cX12_learn 101 = .ok (.if_icmp .ne 30, 3)) (by decide) hf (fun _ hf => ?_) (fun _ hf => ?_)
  · refine r_aload_n hB 1 rfl (by decide +kernel : decode cX12_learn 104 = .ok (.aload_n 0, 1)) rfl ?_
    refine r_gI hB cf12 34 (by decide) (own := "PulseRemoteModel") rfl (Or.inl k_1149) (by decide +kernel) (by decide +kernel : decode cX12_learn 105 = .ok (.getfield 297, 3)) hf (fun x105 hf => ?_)
    refine r_iconst hB (v := 1) (by decide +kernel : decode cX12_learn 108 = .ok (.iconst 1, 1)) (by decide +kernel) ?_
    refine r_icmp_ne hB (tgt := 131) (by decide +kernel : decode cX12_learn 109 = .ok (.if_icmp .ne 22, 3)) (by decide) hf (fun _ hf => ?_) (fun _ hf => ?_)
    · refine r_aload_n hB 1 rfl (by decide +kernel : decode cX12_learn 112 = .ok (.aload_n 0, 1)) rfl ?_
      refine r_gR hB cf12 20 (by decide) (own := "PulseRemoteModel") rfl (Or.inl k_1135) (by decide +kernel) (by decide +kernel : decode cX12_learn 113 = .ok (.getfield 41, 3)) hf (fun x113 hf => ?_)
      refine r_iconst hB (v := 0) (by decide +kernel : decode cX12_learn 116 = .ok (.iconst 0, 1)) (by decide +kernel) ?_
      refine r_iald hB (by decide +kernel : decode cX12_learn 117 = .ok (.iaload, 1)) hf (fun x117 hf => ?_)
      refine r_iconst hB (v := 1) (by decide +kernel : decode cX12_learn 118 = .ok (.iconst 1, 1)) (by decide +kernel) ?_
      refine r_isub hB (by decide +kernel : decode cX12_learn 119 = .ok (.isub, 1)) ?_
      refine r_iconst hB (v := 2) (by decide +kernel : decode cX12_learn 120 = .ok (.iconst 2, 1)) (by decide +kernel) ?_
      refine r_idiv hB (by decide +kernel : decode cX12_learn 121 = .ok (.idiv, 1)) hf (fun v121 hf => ?_)
      refine r_bipush hB (v := 16) (by decide +kernel : decode cX12_learn 122 = .ok (.bipush 16, 2)) (by decide +kernel) ?_
      refine r_icmp_gt hB (tgt := 131) (by decide +kernel : decode cX12_learn 124 = .ok (.if_icmp .gt 7, 3)) (by decide) hf (fun _ hf => ?_) (fun _ hf => ?_)
      · exact WW.sub [1, 3, 4, 0] rfl (t_X12_learn_131 hB hf hk)
      · refine r_iconst hB (v := 1) (by decide +kernel : decode cX12_learn 127 = .ok (.iconst 1, 1)) (by decide +kernel) ?_
        refine r_goto hB (tgt := 132) (by decide +kernel : decode cX12_learn 128 = .ok (.goto 4, 3)) (by decide) ?_
        exact WW.sub [1, 3, 4, 0] rfl (t_X12_learn_132 hB hf hk)
    · exact WW.sub [1, 3, 4, 0] rfl (t_X12_learn_131 hB hf hk)
  · exact WW.sub [1, 3, 4, 0] rfl (t_X12_learn_131 hB hf hk)
set_option maxHeartbeats 4000000 in
set_option maxRecDepth 100000 in
theorem t_X12_learn_96 {X : BX} {D : va_G} {cy : Nat → ClassId} {b : Nat} {r : Option Value} {μ' : MS} (hB : BB X D cy b yX12_learn cX12_learn 12 (some .int) rmX12_learn) {l0 : Nat} {l2 : Int32} {l3 : Int32} {l4 : Int32} {μ : MS} {z : (Int32 × MS)} (hf : f_X12_learn_96 l0 l2 l3 l4 μ = some z) (hk : (fun z : Int32 × MS => r = some (.int z.1) ∧ μ' = z.2) z) : WW X D cy b r μ' 12 0 0 96 [(0, .ref (b + l0)), (2, .int l2), (3, .int l3), (4, .int l4)] [] μ := by
  unfold f_X12_learn_96 at hf
  refine r_iconst hB (v := 0) (by decide +kernel : decode cX12_learn 96 = .ok (.iconst 0, 1)) (by decide +kernel) ?_
  exact WW.sub [0, 1, 2, 3] rfl (t_X12_learn_97 hB hf hk)
set_option maxHeartbeats 4000000 in
set_option maxRecDepth 100000 in
theorem t_X12_learn_0 {X : BX} {D : va_G} {cy : Nat → ClassId} {b : Nat} {r : Option Value} {μ' : MS} (hB : BB X D cy b yX12_learn cX12_learn 12 (some .int) rmX12_learn) {l0 : Nat} {l1 : Int32} {μ : MS} {z : (Int32 × MS)} (hf : f_X12_learn l0 l1 μ = some z) (hk : (fun z : Int32 × MS => r = some (.int z.1) ∧ μ' = z.2) z) : WW X D cy b r μ' 12 0 0 0 [(0, .ref (b + l0)), (1, .int l1)] [] μ := by
  unfold f_X12_learn at hf
  refine r_iload_n hB 1 rfl (by decide +kernel : decode cX12_learn 0 = .ok (.iload_n 1, 1)) rfl ?_
  refine r_cSi hB [.int l1] [] (own := "PulseRemoteModel") rfl cmX12_isSlot smX12_isSlot (Or.inl ⟨rfl, k_1367⟩) (by decide) rfl rfl rfl (Nat.le_of_ble_eq_true rfl) (by decide +kernel : decode cX12_learn 1 = .ok (.invokestatic 199, 3)) (fun z hz => m_X12_isSlot _ _ _ _ hz) rfl hf (fun z1 hf => ?_)
  refine r_if_ne hB (tgt := 9) (by decide +kernel : decode cX12_learn 4 = .ok (.ifCond .ne 5, 3)) (by decide) hf (fun _ hf => ?_) (fun _ hf => ?_)
  · refine r_iconst hB (v := (-1)) (by decide +kernel : decode cX12_learn 7 = .ok (.iconst (-1), 1)) (by decide +kernel) ?_
    obtain rfl := Option.some.inj hf
    obtain ⟨rfl, rfl⟩ := hk
    exact r_iret hB (by decide +kernel : decode cX12_learn 8 = .ok (.ireturn, 1))
  · refine r_aload_n hB 0 rfl (by decide +kernel : decode cX12_learn 9 = .ok (.aload_n 0, 1)) rfl ?_
    refine r_iload_n hB 1 rfl (by decide +kernel : decode cX12_learn 10 = .ok (.iload_n 1, 1)) rfl ?_
    refine r_cVv hB [.int l1] [] cf12 (own := "PulseRemoteModel") rfl cmX12_opens imX12_opens (Or.inl k_1440) (by decide) rfl rfl rfl (Nat.le_of_ble_eq_true rfl) (by decide +kernel : decode cX12_learn 11 = .ok (.invokevirtual 277, 3)) (fun z hz => m_X12_opens _ _ _ _ hz) rfl hf (fun z11 hf => ?_)
    refine r_aload_n hB 0 rfl (by decide +kernel : decode cX12_learn 14 = .ok (.aload_n 0, 1)) rfl ?_
    refine r_gI hB cf12 21 (by decide) (own := "PulseRemoteModel") rfl (Or.inl k_1136) (by decide +kernel) (by decide +kernel : decode cX12_learn 15 = .ok (.getfield 224, 3)) hf (fun x15 hf => ?_)
    refine r_if_eq hB (tgt := 31) (by decide +kernel : decode cX12_learn 18 = .ok (.ifCond .eq 13, 3)) (by decide) hf (fun _ hf => ?_) (fun _ hf => ?_)
    · refine r_bipush hB (v := (-2)) (by decide +kernel : decode cX12_learn 31 = .ok (.bipush (-2), 2)) (by decide +kernel) ?_
      obtain rfl := Option.some.inj hf
      obtain ⟨rfl, rfl⟩ := hk
      exact r_iret hB (by decide +kernel : decode cX12_learn 33 = .ok (.ireturn, 1))
    · refine r_aload_n hB 0 rfl (by decide +kernel : decode cX12_learn 21 = .ok (.aload_n 0, 1)) rfl ?_
      refine r_gR hB cf12 20 (by decide) (own := "PulseRemoteModel") rfl (Or.inl k_1135) (by decide +kernel) (by decide +kernel : decode cX12_learn 22 = .ok (.getfield 41, 3)) hf (fun x22 hf => ?_)
      refine r_iconst hB (v := 0) (by decide +kernel : decode cX12_learn 25 = .ok (.iconst 0, 1)) (by decide +kernel) ?_
      refine r_iald hB (by decide +kernel : decode cX12_learn 26 = .ok (.iaload, 1)) hf (fun x26 hf => ?_)
      refine r_iconst hB (v := 5) (by decide +kernel : decode cX12_learn 27 = .ok (.iconst 5, 1)) (by decide +kernel) ?_
      refine r_icmp_ge hB (tgt := 34) (by decide +kernel : decode cX12_learn 28 = .ok (.if_icmp .ge 6, 3)) (by decide) hf (fun _ hf => ?_) (fun _ hf => ?_)
      · refine r_aload_n hB 0 rfl (by decide +kernel : decode cX12_learn 34 = .ok (.aload_n 0, 1)) rfl ?_
        refine r_iconst hB (v := 0) (by decide +kernel : decode cX12_learn 35 = .ok (.iconst 0, 1)) (by decide +kernel) ?_
        refine r_cVv hB [.int 0] [] cf12 (own := "PulseRemoteModel") rfl cmX12_findsClusters imX12_findsClusters (Or.inl k_1525) (by decide) rfl rfl rfl (Nat.le_of_ble_eq_true rfl) (by decide +kernel : decode cX12_learn 36 = .ok (.invokevirtual 300, 3)) (fun z hz => m_X12_findsClusters _ _ _ _ hz) rfl hf (fun z36 hf => ?_)
        refine r_aload_n hB 0 rfl (by decide +kernel : decode cX12_learn 39 = .ok (.aload_n 0, 1)) rfl ?_
        refine r_gI hB cf12 34 (by decide) (own := "PulseRemoteModel") rfl (Or.inl k_1149) (by decide +kernel) (by decide +kernel : decode cX12_learn 40 = .ok (.getfield 297, 3)) hf (fun x40 hf => ?_)
        refine r_istore_n hB (by decide +kernel : decode cX12_learn 43 = .ok (.istore_n 2, 1)) rfl (by decide) rfl ?_
        refine ww_lv (lv' := [(2, .int x40), (0, .ref (b + l0)), (1, .int l1)]) rfl ?_
        refine r_aload_n hB 1 rfl (by decide +kernel : decode cX12_learn 44 = .ok (.aload_n 0, 1)) rfl ?_
        refine r_gR hB cf12 35 (by decide) (own := "PulseRemoteModel") rfl (Or.inl k_1150) (by decide +kernel) (by decide +kernel : decode cX12_learn 45 = .ok (.getfield 60, 3)) hf (fun x45 hf => ?_)
        refine r_iconst hB (v := 0) (by decide +kernel : decode cX12_learn 48 = .ok (.iconst 0, 1)) (by decide +kernel) ?_
        refine r_iald hB (by decide +kernel : decode cX12_learn 49 = .ok (.iaload, 1)) hf (fun x49 hf => ?_)
        refine r_istore_n hB (by decide +kernel : decode cX12_learn 50 = .ok (.istore_n 3, 1)) rfl (by decide) rfl ?_
        refine ww_lv (lv' := [(3, .int x49), (2, .int x40), (0, .ref (b + l0)), (1, .int l1)]) rfl ?_
        refine r_aload_n hB 2 rfl (by decide +kernel : decode cX12_learn 51 = .ok (.aload_n 0, 1)) rfl ?_
        refine r_gR hB cf12 35 (by decide) (own := "PulseRemoteModel") rfl (Or.inl k_1150) (by decide +kernel) (by decide +kernel : decode cX12_learn 52 = .ok (.getfield 60, 3)) hf (fun x52 hf => ?_)
        refine r_iconst hB (v := 1) (by decide +kernel : decode cX12_learn 55 = .ok (.iconst 1, 1)) (by decide +kernel) ?_
        refine r_iald hB (by decide +kernel : decode cX12_learn 56 = .ok (.iaload, 1)) hf (fun x56 hf => ?_)
        refine r_istore hB (by decide +kernel : decode cX12_learn 57 = .ok (.istore 4, 2)) (by decide) rfl ?_
        refine ww_lv (lv' := [(4, .int x56), (3, .int x49), (2, .int x40), (0, .ref (b + l0)), (1, .int l1)]) rfl ?_
        refine r_aload_n hB 3 rfl (by decide +kernel : decode cX12_learn 59 = .ok (.aload_n 0, 1)) rfl ?_
        refine r_iconst hB (v := 1) (by decide +kernel : decode cX12_learn 60 = .ok (.iconst 1, 1)) (by decide +kernel) ?_
        refine r_cVv hB [.int 1] [] cf12 (own := "PulseRemoteModel") rfl cmX12_findsClusters imX12_findsClusters (Or.inl k_1525) (by decide) rfl rfl rfl (Nat.le_of_ble_eq_true rfl) (by decide +kernel : decode cX12_learn 61 = .ok (.invokevirtual 300, 3)) (fun z hz => m_X12_findsClusters _ _ _ _ hz) rfl hf (fun z61 hf => ?_)
        refine r_iload_n hB 2 rfl (by decide +kernel : decode cX12_learn 64 = .ok (.iload_n 2, 1)) rfl ?_
        refine r_iconst hB (v := 1) (by decide +kernel : decode cX12_learn 65 = .ok (.iconst 1, 1)) (by decide +kernel) ?_
        refine r_icmp_ne hB (tgt := 96) (by decide +kernel : decode cX12_learn 66 = .ok (.if_icmp .ne 30, 3)) (by decide) hf (fun _ hf => ?_) (fun _ hf => ?_)
        · refine r_aload_n hB 3 rfl (by decide +kernel : decode cX12_learn 69 = .ok (.aload_n 0, 1)) rfl ?_
          refine r_gI hB cf12 34 (by decide) (own := "PulseRemoteModel") rfl (Or.inl k_1149) (by decide +kernel) (by decide +kernel : decode cX12_learn 70 = .ok (.getfield 297, 3)) hf (fun x70 hf => ?_)
          refine r_iconst hB (v := 2) (by decide +kernel : decode cX12_learn 73 = .ok (.iconst 2, 1)) (by decide +kernel) ?_
          refine r_icmp_ne hB (tgt := 96) (by decide +kernel : decode cX12_learn 74 = .ok (.if_icmp .ne 22, 3)) (by decide) hf (fun _ hf => ?_) (fun _ hf => ?_)
          · refine r_aload_n hB 3 rfl (by decide +kernel : decode cX12_learn 77 = .ok (.aload_n 0, 1)) rfl ?_
            refine r_gR hB cf12 20 (by decide) (own := "PulseRemoteModel") rfl (Or.inl k_1135) (by decide +kernel) (by decide +kernel : decode cX12_learn 78 = .ok (.getfield 41, 3)) hf (fun x78 hf => ?_)
            refine r_iconst hB (v := 0) (by decide +kernel : decode cX12_learn 81 = .ok (.iconst 0, 1)) (by decide +kernel) ?_
            refine r_iald hB (by decide +kernel : decode cX12_learn 82 = .ok (.iaload, 1)) hf (fun x82 hf => ?_)
            refine r_iconst hB (v := 3) (by decide +kernel : decode cX12_learn 83 = .ok (.iconst 3, 1)) (by decide +kernel) ?_
            refine r_isub hB (by decide +kernel : decode cX12_learn 84 = .ok (.isub, 1)) ?_
            refine r_iconst hB (v := 2) (by decide +kernel : decode cX12_learn 85 = .ok (.iconst 2, 1)) (by decide +kernel) ?_
            refine r_idiv hB (by decide +kernel : decode cX12_learn 86 = .ok (.idiv, 1)) hf (fun v86 hf => ?_)
            refine r_bipush hB (v := 16) (by decide +kernel : decode cX12_learn 87 = .ok (.bipush 16, 2)) (by decide +kernel) ?_
            refine r_icmp_gt hB (tgt := 96) (by decide +kernel : decode cX12_learn 89 = .ok (.if_icmp .gt 7, 3)) (by decide) hf (fun _ hf => ?_) (fun _ hf => ?_)
            · exact WW.sub [3, 2, 1, 0] rfl (t_X12_learn_96 hB hf hk)
            · refine r_iconst hB (v := 1) (by decide +kernel : decode cX12_learn 92 = .ok (.iconst 1, 1)) (by decide +kernel) ?_
              refine r_goto hB (tgt := 97) (by decide +kernel : decode cX12_learn 93 = .ok (.goto 4, 3)) (by decide) ?_
              exact WW.sub [3, 2, 1, 0] rfl (t_X12_learn_97 hB hf hk)
          · exact WW.sub [3, 2, 1, 0] rfl (t_X12_learn_96 hB hf hk)
        · exact WW.sub [3, 2, 1, 0] rfl (t_X12_learn_96 hB hf hk)
      · refine r_bipush hB (v := (-2)) (by decide +kernel : decode cX12_learn 31 = .ok (.bipush (-2), 2)) (by decide +kernel) ?_
        obtain rfl := Option.some.inj hf
        obtain ⟨rfl, rfl⟩ := hk
        exact r_iret hB (by decide +kernel : decode cX12_learn 33 = .ok (.ireturn, 1))
theorem m_X12_learn (l : Launch) (D : va_G) (cy : Nat → ClassId) (b : Nat) {l0 : Nat} {l1 : Int32} {μ : MS} {z : Int32 × MS} (hf : f_X12_learn l0 l1 μ = some z) : Met l yX12_learn (.code yX12_learn cX12_learn 12 (some .int) :: GW) rmX12_learn (Pw D cy b [.ref (b + l0), .int l1] μ) (Qw D cy b (some (.int z.1)) (z.2)) rmX12_learn.cells rmX12_learn.slots (fun q => b ≤ q) :=
  met_of (by decide) (Nat.le_of_ble_eq_true rfl) (fun X hB _ => (t_X12_learn_0 hB hf ⟨rfl, rfl⟩))
-- PulseRemoteModel.collides(III)V
set_option maxHeartbeats 4000000 in
set_option maxRecDepth 100000 in
theorem t_X12_collides_136 {X : BX} {D : va_G} {cy : Nat → ClassId} {b : Nat} {r : Option Value} {μ' : MS} (hB : BB X D cy b yX12_collides cX12_collides 5 none rmX12_collides) {l0 : Nat} {l3 : Int32} {μ : MS} {z : MS} (hf : f_X12_collides_136 l0 l3 μ = some z) (hk : (fun z : MS => r = none ∧ μ' = z) z) : WW X D cy b r μ' 5 0 0 136 [(0, .ref (b + l0)), (3, .int l3)] [] μ := by
  unfold f_X12_collides_136 at hf
  refine r_aload_n hB 0 rfl (by decide +kernel : decode cX12_collides 136 = .ok (.aload_n 0, 1)) rfl ?_
  refine r_iload_n hB 1 rfl (by decide +kernel : decode cX12_collides 137 = .ok (.iload_n 3, 1)) rfl ?_
  refine r_cVv hB [.int l3] [] cf12 (own := "PulseRemoteModel") rfl cmX12_overlays imX12_overlays (Or.inl k_1417) (by decide) rfl rfl rfl (Nat.le_of_ble_eq_true rfl) (by decide +kernel : decode cX12_collides 138 = .ok (.invokevirtual 218, 3)) (fun z hz => m_X12_overlays _ _ _ _ hz) rfl hf (fun z138 hf => ?_)
  obtain rfl := Option.some.inj hf
  obtain ⟨rfl, rfl⟩ := hk
  exact r_vret hB (by decide +kernel : decode cX12_collides 141 = .ok (.return_, 1))
set_option maxHeartbeats 4000000 in
set_option maxRecDepth 100000 in
theorem t_X12_collides_107_b {X : BX} {D : va_G} {cy : Nat → ClassId} {b : Nat} {r : Option Value} {μ' : MS} (hB : BB X D cy b yX12_collides cX12_collides 5 none rmX12_collides) {l0 : Nat} {l3 : Int32} {l4 : Int32} {μ : MS} {z : ((Nat × Int32 × Int32 × MS) ⊕ MS)} (hf : f_X12_collides_107_b l0 l3 l4 μ = some z) (hk : (Sum.elim (fun s : Nat × Int32 × Int32 × MS => WW X D cy b r μ' 5 0 0 107 [(0, .ref (b + s.1)), (3, .int s.2.1), (4, .int s.2.2.1)] [] s.2.2.2) (fun z : MS => r = none ∧ μ' = z)) z) : WW X D cy b r μ' 5 0 0 107 [(0, .ref (b + l0)), (3, .int l3), (4, .int l4)] [] μ := by
  unfold f_X12_collides_107_b at hf
  refine r_iload hB 2 rfl (by decide +kernel : decode cX12_collides 107 = .ok (.iload 4, 2)) ?_
  refine r_aload_n hB 0 rfl (by decide +kernel : decode cX12_collides 109 = .ok (.aload_n 0, 1)) rfl ?_
  refine r_gI hB cf12 12 (by decide) (own := "PulseRemoteModel") rfl (Or.inl k_1127) (by decide +kernel) (by decide +kernel : decode cX12_collides 110 = .ok (.getfield 179, 3)) hf (fun x110 hf => ?_)
  refine r_icmp_ge hB (tgt := 136) (by decide +kernel : decode cX12_collides 113 = .ok (.if_icmp .ge 23, 3)) (by decide) hf (fun _ hf => ?_) (fun _ hf => ?_)
  · obtain ⟨_, hx0, rfl⟩ := xr_inv hf
    exact WW.sub [0, 1] rfl (t_X12_collides_136 hB hx0 hk)
  · refine r_aload_n hB 0 rfl (by decide +kernel : decode cX12_collides 116 = .ok (.aload_n 0, 1)) rfl ?_
    refine r_gR hB cf12 13 (by decide) (own := "PulseRemoteModel") rfl (Or.inl k_1128) (by decide +kernel) (by decide +kernel : decode cX12_collides 117 = .ok (.getfield 26, 3)) hf (fun x117 hf => ?_)
    refine r_iload hB 2 rfl (by decide +kernel : decode cX12_collides 120 = .ok (.iload 4, 2)) ?_
    refine r_aload_n hB 0 rfl (by decide +kernel : decode cX12_collides 122 = .ok (.aload_n 0, 1)) rfl ?_
    refine r_gR hB cf12 11 (by decide) (own := "PulseRemoteModel") rfl (Or.inl k_1126) (by decide +kernel) (by decide +kernel : decode cX12_collides 123 = .ok (.getfield 23, 3)) hf (fun x123 hf => ?_)
    refine r_iload hB 2 rfl (by decide +kernel : decode cX12_collides 126 = .ok (.iload 4, 2)) ?_
    refine r_iald hB (by decide +kernel : decode cX12_collides 128 = .ok (.iaload, 1)) hf (fun x128 hf => ?_)
    refine r_iast hB (by decide +kernel : decode cX12_collides 129 = .ok (.iastore, 1)) hf (fun m129 hf => ?_)
    refine r_iincB hB 2 rfl (by decide +kernel : decode cX12_collides 130 = .ok (.iinc 4 1, 3)) (w := 1) (by decide +kernel) (by decide) hf (fun v130 hf => ?_)
    refine ww_lv (lv' := [(4, .int v130), (0, .ref (b + l0)), (3, .int l3)]) rfl ?_
    refine r_goto hB (tgt := 107) (by decide +kernel : decode cX12_collides 133 = .ok (.goto (-26), 3)) (by decide) ?_
    obtain rfl := Option.some.inj hf
    exact WW.sub [1, 2, 0] rfl hk
set_option maxHeartbeats 4000000 in
set_option maxRecDepth 100000 in
theorem t_X12_collides_107 {X : BX} {D : va_G} {cy : Nat → ClassId} {b : Nat} {r : Option Value} {μ' : MS} (hB : BB X D cy b yX12_collides cX12_collides 5 none rmX12_collides) {l0 : Nat} {l3 : Int32} {l4 : Int32} {μ : MS} {z : MS} (hf : f_X12_collides_107 l0 l3 l4 μ = some z) (hk : (fun z : MS => r = none ∧ μ' = z) z) : WW X D cy b r μ' 5 0 0 107 [(0, .ref (b + l0)), (3, .int l3), (4, .int l4)] [] μ :=
  lp_ind (P := fun s : Nat × Int32 × Int32 × MS => WW X D cy b r μ' 5 0 0 107 [(0, .ref (b + s.1)), (3, .int s.2.1), (4, .int s.2.2.1)] [] s.2.2.2) (Q := (fun z : MS => r = none ∧ μ' = z)) (fun s z hz hk => t_X12_collides_107_b hB hz hk) (l0, l3, l4, μ) z hf hk
set_option maxHeartbeats 4000000 in
set_option maxRecDepth 100000 in
theorem t_X12_collides_68 {X : BX} {D : va_G} {cy : Nat → ClassId} {b : Nat} {r : Option Value} {μ' : MS} (hB : BB X D cy b yX12_collides cX12_collides 5 none rmX12_collides) {l0 : Nat} {l1 : Int32} {l3 : Int32} {μ : MS} {z : MS} (hf : f_X12_collides_68 l0 l1 l3 μ = some z) (hk : (fun z : MS => r = none ∧ μ' = z) z) : WW X D cy b r μ' 5 0 0 68 [(0, .ref (b + l0)), (1, .int l1), (3, .int l3)] [] μ := by
  unfold f_X12_collides_68 at hf
  refine r_aload_n hB 0 rfl (by decide +kernel : decode cX12_collides 68 = .ok (.aload_n 0, 1)) rfl ?_
  refine r_aload_n hB 0 rfl (by decide +kernel : decode cX12_collides 69 = .ok (.aload_n 0, 1)) rfl ?_
  refine r_gR hB cf12 0 (by decide) (own := "PulseRemoteModel") rfl (Or.inl k_1115) (by decide +kernel) (by decide +kernel : decode cX12_collides 70 = .ok (.getfield 7, 3)) hf (fun x70 hf => ?_)
  refine r_bipush hB (v := 59) (by decide +kernel : decode cX12_collides 73 = .ok (.bipush 59, 2)) (by decide +kernel) ?_
  refine r_iconst hB (v := 2) (by decide +kernel : decode cX12_collides 75 = .ok (.iconst 2, 1)) (by decide +kernel) ?_
  refine r_iload_n hB 1 rfl (by decide +kernel : decode cX12_collides 76 = .ok (.iload_n 1, 1)) rfl ?_
  refine r_imul hB (by decide +kernel : decode cX12_collides 77 = .ok (.imul, 1)) ?_
  refine r_iadd hB (by decide +kernel : decode cX12_collides 78 = .ok (.iadd, 1)) ?_
  refine r_iald hB (by decide +kernel : decode cX12_collides 79 = .ok (.iaload, 1)) hf (fun x79 hf => ?_)
  refine r_aload_n hB 0 rfl (by decide +kernel : decode cX12_collides 80 = .ok (.aload_n 0, 1)) rfl ?_
  refine r_gR hB cf12 0 (by decide) (own := "PulseRemoteModel") rfl (Or.inl k_1115) (by decide +kernel) (by decide +kernel : decode cX12_collides 81 = .ok (.getfield 7, 3)) hf (fun x81 hf => ?_)
  refine r_bipush hB (v := 59) (by decide +kernel : decode cX12_collides 84 = .ok (.bipush 59, 2)) (by decide +kernel) ?_
  refine r_iconst hB (v := 2) (by decide +kernel : decode cX12_collides 86 = .ok (.iconst 2, 1)) (by decide +kernel) ?_
  refine r_iload_n hB 1 rfl (by decide +kernel : decode cX12_collides 87 = .ok (.iload_n 1, 1)) rfl ?_
  refine r_imul hB (by decide +kernel : decode cX12_collides 88 = .ok (.imul, 1)) ?_
  refine r_iadd hB (by decide +kernel : decode cX12_collides 89 = .ok (.iadd, 1)) ?_
  refine r_iconst hB (v := 1) (by decide +kernel : decode cX12_collides 90 = .ok (.iconst 1, 1)) (by decide +kernel) ?_
  refine r_iadd hB (by decide +kernel : decode cX12_collides 91 = .ok (.iadd, 1)) ?_
  refine r_iald hB (by decide +kernel : decode cX12_collides 92 = .ok (.iaload, 1)) hf (fun x92 hf => ?_)
  refine r_cVv hB [.int x79, .int x92] [] cf12 (own := "PulseRemoteModel") rfl cmX12_makes imX12_makes (Or.inl k_1377) (by decide) rfl rfl rfl (Nat.le_of_ble_eq_true rfl) (by decide +kernel : decode cX12_collides 93 = .ok (.invokevirtual 202, 3)) (fun z hz => m_X12_makes _ _ _ _ hz) rfl hf (fun z93 hf => ?_)
  refine r_aload_n hB 0 rfl (by decide +kernel : decode cX12_collides 96 = .ok (.aload_n 0, 1)) rfl ?_
  refine r_aload_n hB 0 rfl (by decide +kernel : decode cX12_collides 97 = .ok (.aload_n 0, 1)) rfl ?_
  refine r_gI hB cf12 12 (by decide) (own := "PulseRemoteModel") rfl (Or.inl k_1127) (by decide +kernel) (by decide +kernel : decode cX12_collides 98 = .ok (.getfield 179, 3)) hf (fun x98 hf => ?_)
  refine r_pI hB cf12 14 (by decide) (own := "PulseRemoteModel") rfl (Or.inl k_1129) (Or.inl rfl) rfl (by decide +kernel : decode cX12_collides 101 = .ok (.putfield 193, 3)) hf (fun m101 hf => ?_)
  refine r_iconst hB (v := 0) (by decide +kernel : decode cX12_collides 104 = .ok (.iconst 0, 1)) (by decide +kernel) ?_
  refine r_istore hB (by decide +kernel : decode cX12_collides 105 = .ok (.istore 4, 2)) (by decide) rfl ?_
  refine ww_lv (lv' := [(4, .int 0), (0, .ref (b + l0)), (1, .int l1), (3, .int l3)]) rfl ?_
  exact WW.sub [1, 3, 0] rfl (t_X12_collides_107 hB hf hk)
set_option maxHeartbeats 4000000 in
set_option maxRecDepth 100000 in
theorem t_X12_collides_39_b {X : BX} {D : va_G} {cy : Nat → ClassId} {b : Nat} {r : Option Value} {μ' : MS} (hB : BB X D cy b yX12_collides cX12_collides 5 none rmX12_collides) {l0 : Nat} {l1 : Int32} {l3 : Int32} {l4 : Int32} {μ : MS} {z : ((Nat × Int32 × Int32 × Int32 × MS) ⊕ MS)} (hf : f_X12_collides_39_b l0 l1 l3 l4 μ = some z) (hk : (Sum.elim (fun s : Nat × Int32 × Int32 × Int32 × MS => WW X D cy b r μ' 5 0 0 39 [(0, .ref (b + s.1)), (1, .int s.2.1), (3, .int s.2.2.1), (4, .int s.2.2.2.1)] [] s.2.2.2.2) (fun z : MS => r = none ∧ μ' = z)) z) : WW X D cy b r μ' 5 0 0 39 [(0, .ref (b + l0)), (1, .int l1), (3, .int l3), (4, .int l4)] [] μ := by
  unfold f_X12_collides_39_b at hf
  refine r_iload hB 3 rfl (by decide +kernel : decode cX12_collides 39 = .ok (.iload 4, 2)) ?_
  refine r_aload_n hB 0 rfl (by decide +kernel : decode cX12_collides 41 = .ok (.aload_n 0, 1)) rfl ?_
  refine r_gI hB cf12 12 (by decide) (own := "PulseRemoteModel") rfl (Or.inl k_1127) (by decide +kernel) (by decide +kernel : decode cX12_collides 42 = .ok (.getfield 179, 3)) hf (fun x42 hf => ?_)
  refine r_icmp_ge hB (tgt := 68) (by decide +kernel : decode cX12_collides 45 = .ok (.if_icmp .ge 23, 3)) (by decide) hf (fun _ hf => ?_) (fun _ hf => ?_)
  · obtain ⟨_, hx0, rfl⟩ := xr_inv hf
    exact WW.sub [0, 1, 2] rfl (t_X12_collides_68 hB hx0 hk)
  · refine r_aload_n hB 0 rfl (by decide +kernel : decode cX12_collides 48 = .ok (.aload_n 0, 1)) rfl ?_
    refine r_gR hB cf12 15 (by decide) (own := "PulseRemoteModel") rfl (Or.inl k_1130) (by decide +kernel) (by decide +kernel : decode cX12_collides 49 = .ok (.getfield 29, 3)) hf (fun x49 hf => ?_)
    refine r_iload hB 3 rfl (by decide +kernel : decode cX12_collides 52 = .ok (.iload 4, 2)) ?_
    refine r_aload_n hB 0 rfl (by decide +kernel : decode cX12_collides 54 = .ok (.aload_n 0, 1)) rfl ?_
    refine r_gR hB cf12 11 (by decide) (own := "PulseRemoteModel") rfl (Or.inl k_1126) (by decide +kernel) (by decide +kernel : decode cX12_collides 55 = .ok (.getfield 23, 3)) hf (fun x55 hf => ?_)
    refine r_iload hB 3 rfl (by decide +kernel : decode cX12_collides 58 = .ok (.iload 4, 2)) ?_
    refine r_iald hB (by decide +kernel : decode cX12_collides 60 = .ok (.iaload, 1)) hf (fun x60 hf => ?_)
    refine r_iast hB (by decide +kernel : decode cX12_collides 61 = .ok (.iastore, 1)) hf (fun m61 hf => ?_)
    refine r_iincB hB 3 rfl (by decide +kernel : decode cX12_collides 62 = .ok (.iinc 4 1, 3)) (w := 1) (by decide +kernel) (by decide) hf (fun v62 hf => ?_)
    refine ww_lv (lv' := [(4, .int v62), (0, .ref (b + l0)), (1, .int l1), (3, .int l3)]) rfl ?_
    refine r_goto hB (tgt := 39) (by decide +kernel : decode cX12_collides 65 = .ok (.goto (-26), 3)) (by decide) ?_
    obtain rfl := Option.some.inj hf
    exact WW.sub [1, 2, 3, 0] rfl hk
set_option maxHeartbeats 4000000 in
set_option maxRecDepth 100000 in
theorem t_X12_collides_39 {X : BX} {D : va_G} {cy : Nat → ClassId} {b : Nat} {r : Option Value} {μ' : MS} (hB : BB X D cy b yX12_collides cX12_collides 5 none rmX12_collides) {l0 : Nat} {l1 : Int32} {l3 : Int32} {l4 : Int32} {μ : MS} {z : MS} (hf : f_X12_collides_39 l0 l1 l3 l4 μ = some z) (hk : (fun z : MS => r = none ∧ μ' = z) z) : WW X D cy b r μ' 5 0 0 39 [(0, .ref (b + l0)), (1, .int l1), (3, .int l3), (4, .int l4)] [] μ :=
  lp_ind (P := fun s : Nat × Int32 × Int32 × Int32 × MS => WW X D cy b r μ' 5 0 0 39 [(0, .ref (b + s.1)), (1, .int s.2.1), (3, .int s.2.2.1), (4, .int s.2.2.2.1)] [] s.2.2.2.2) (Q := (fun z : MS => r = none ∧ μ' = z)) (fun s z hz hk => t_X12_collides_39_b hB hz hk) (l0, l1, l3, l4, μ) z hf hk
set_option maxHeartbeats 4000000 in
set_option maxRecDepth 100000 in
theorem t_X12_collides_0 {X : BX} {D : va_G} {cy : Nat → ClassId} {b : Nat} {r : Option Value} {μ' : MS} (hB : BB X D cy b yX12_collides cX12_collides 5 none rmX12_collides) {l0 : Nat} {l1 : Int32} {l2 : Int32} {l3 : Int32} {μ : MS} {z : MS} (hf : f_X12_collides l0 l1 l2 l3 μ = some z) (hk : (fun z : MS => r = none ∧ μ' = z) z) : WW X D cy b r μ' 5 0 0 0 [(0, .ref (b + l0)), (1, .int l1), (2, .int l2), (3, .int l3)] [] μ := by
  unfold f_X12_collides at hf
  refine r_aload_n hB 0 rfl (by decide +kernel : decode cX12_collides 0 = .ok (.aload_n 0, 1)) rfl ?_
  refine r_aload_n hB 0 rfl (by decide +kernel : decode cX12_collides 1 = .ok (.aload_n 0, 1)) rfl ?_
  refine r_gR hB cf12 0 (by decide) (own := "PulseRemoteModel") rfl (Or.inl k_1115) (by decide +kernel) (by decide +kernel : decode cX12_collides 2 = .ok (.getfield 7, 3)) hf (fun x2 hf => ?_)
  refine r_bipush hB (v := 59) (by decide +kernel : decode cX12_collides 5 = .ok (.bipush 59, 2)) (by decide +kernel) ?_
  refine r_iconst hB (v := 2) (by decide +kernel : decode cX12_collides 7 = .ok (.iconst 2, 1)) (by decide +kernel) ?_
  refine r_iload_n hB 2 rfl (by decide +kernel : decode cX12_collides 8 = .ok (.iload_n 2, 1)) rfl ?_
  refine r_imul hB (by decide +kernel : decode cX12_collides 9 = .ok (.imul, 1)) ?_
  refine r_iadd hB (by decide +kernel : decode cX12_collides 10 = .ok (.iadd, 1)) ?_
  refine r_iald hB (by decide +kernel : decode cX12_collides 11 = .ok (.iaload, 1)) hf (fun x11 hf => ?_)
  refine r_aload_n hB 0 rfl (by decide +kernel : decode cX12_collides 12 = .ok (.aload_n 0, 1)) rfl ?_
  refine r_gR hB cf12 0 (by decide) (own := "PulseRemoteModel") rfl (Or.inl k_1115) (by decide +kernel) (by decide +kernel : decode cX12_collides 13 = .ok (.getfield 7, 3)) hf (fun x13 hf => ?_)
  refine r_bipush hB (v := 59) (by decide +kernel : decode cX12_collides 16 = .ok (.bipush 59, 2)) (by decide +kernel) ?_
  refine r_iconst hB (v := 2) (by decide +kernel : decode cX12_collides 18 = .ok (.iconst 2, 1)) (by decide +kernel) ?_
  refine r_iload_n hB 2 rfl (by decide +kernel : decode cX12_collides 19 = .ok (.iload_n 2, 1)) rfl ?_
  refine r_imul hB (by decide +kernel : decode cX12_collides 20 = .ok (.imul, 1)) ?_
  refine r_iadd hB (by decide +kernel : decode cX12_collides 21 = .ok (.iadd, 1)) ?_
  refine r_iconst hB (v := 1) (by decide +kernel : decode cX12_collides 22 = .ok (.iconst 1, 1)) (by decide +kernel) ?_
  refine r_iadd hB (by decide +kernel : decode cX12_collides 23 = .ok (.iadd, 1)) ?_
  refine r_iald hB (by decide +kernel : decode cX12_collides 24 = .ok (.iaload, 1)) hf (fun x24 hf => ?_)
  refine r_cVv hB [.int x11, .int x24] [] cf12 (own := "PulseRemoteModel") rfl cmX12_makes imX12_makes (Or.inl k_1377) (by decide) rfl rfl rfl (Nat.le_of_ble_eq_true rfl) (by decide +kernel : decode cX12_collides 25 = .ok (.invokevirtual 202, 3)) (fun z hz => m_X12_makes _ _ _ _ hz) rfl hf (fun z25 hf => ?_)
  refine r_aload_n hB 0 rfl (by decide +kernel : decode cX12_collides 28 = .ok (.aload_n 0, 1)) rfl ?_
  refine r_aload_n hB 0 rfl (by decide +kernel : decode cX12_collides 29 = .ok (.aload_n 0, 1)) rfl ?_
  refine r_gI hB cf12 12 (by decide) (own := "PulseRemoteModel") rfl (Or.inl k_1127) (by decide +kernel) (by decide +kernel : decode cX12_collides 30 = .ok (.getfield 179, 3)) hf (fun x30 hf => ?_)
  refine r_pI hB cf12 16 (by decide) (own := "PulseRemoteModel") rfl (Or.inl k_1131) (Or.inl rfl) rfl (by decide +kernel : decode cX12_collides 33 = .ok (.putfield 212, 3)) hf (fun m33 hf => ?_)
  refine r_iconst hB (v := 0) (by decide +kernel : decode cX12_collides 36 = .ok (.iconst 0, 1)) (by decide +kernel) ?_
  refine r_istore hB (by decide +kernel : decode cX12_collides 37 = .ok (.istore 4, 2)) (by decide) rfl ?_
  refine ww_lv (lv' := [(4, .int 0), (0, .ref (b + l0)), (1, .int l1), (2, .int l2), (3, .int l3)]) rfl ?_
  exact WW.sub [1, 2, 4, 0] rfl (t_X12_collides_39 hB hf hk)
theorem m_X12_collides (l : Launch) (D : va_G) (cy : Nat → ClassId) (b : Nat) {l0 : Nat} {l1 : Int32} {l2 : Int32} {l3 : Int32} {μ : MS} {z : MS} (hf : f_X12_collides l0 l1 l2 l3 μ = some z) : Met l yX12_collides (.code yX12_collides cX12_collides 5 none :: GW) rmX12_collides (Pw D cy b [.ref (b + l0), .int l1, .int l2, .int l3] μ) (Qw D cy b (none) (z)) rmX12_collides.cells rmX12_collides.slots (fun q => b ≤ q) :=
  met_of (by decide) (Nat.le_of_ble_eq_true rfl) (fun X hB _ => (t_X12_collides_0 hB hf ⟨rfl, rfl⟩))
-- PulseRemoteModel.isLike(I)Z
set_option maxHeartbeats 4000000 in
set_option maxRecDepth 100000 in
theorem t_X12_isLike_64 {X : BX} {D : va_G} {cy : Nat → ClassId} {b : Nat} {r : Option Value} {μ' : MS} (hB : BB X D cy b yX12_isLike cX12_isLike 4 (some .boolean) rmX12_isLike) {l2 : Int32} {μ : MS} {z : (Int32 × MS)} (hf : f_X12_isLike_64 l2 μ = some z) (hk : (fun z : Int32 × MS => r = some (.int z.1) ∧ μ' = z.2) z) : WW X D cy b r μ' 4 0 0 64 [(2, .int l2)] [] μ := by
  unfold f_X12_isLike_64 at hf
  refine r_iload_n hB 0 rfl (by decide +kernel : decode cX12_isLike 64 = .ok (.iload_n 2, 1)) rfl ?_
  obtain ⟨hv, rfl⟩ := rZ_inv hf
  obtain ⟨rfl, rfl⟩ := hk
  exact r_zret hB hv (by decide +kernel : decode cX12_isLike 65 = .ok (.ireturn, 1))
set_option maxHeartbeats 4000000 in
set_option maxRecDepth 100000 in
theorem t_X12_isLike_24_b {X : BX} {D : va_G} {cy : Nat → ClassId} {b : Nat} {r : Option Value} {μ' : MS} (hB : BB X D cy b yX12_isLike cX12_isLike 4 (some .boolean) rmX12_isLike) {l0 : Nat} {l1 : Int32} {l2 : Int32} {l3 : Int32} {μ : MS} {z : ((Nat × Int32 × Int32 × Int32 × MS) ⊕ (Int32 × MS))} (hf : f_X12_isLike_24_b l0 l1 l2 l3 μ = some z) (hk : (Sum.elim (fun s : Nat × Int32 × Int32 × Int32 × MS => WW X D cy b r μ' 4 0 0 24 [(0, .ref (b + s.1)), (1, .int s.2.1), (2, .int s.2.2.1), (3, .int s.2.2.2.1)] [] s.2.2.2.2) (fun z : Int32 × MS => r = some (.int z.1) ∧ μ' = z.2)) z) : WW X D cy b r μ' 4 0 0 24 [(0, .ref (b + l0)), (1, .int l1), (2, .int l2), (3, .int l3)] [] μ := by
  unfold f_X12_isLike_24_b at hf
  refine r_iload_n hB 3 rfl (by decide +kernel : decode cX12_isLike 24 = .ok (.iload_n 3, 1)) rfl ?_
  refine r_aload_n hB 0 rfl (by decide +kernel : decode cX12_isLike 25 = .ok (.aload_n 0, 1)) rfl ?_
  refine r_gI hB cf12 14 (by decide) (own := "PulseRemoteModel") rfl (Or.inl k_1129) (by decide +kernel) (by decide +kernel : decode cX12_isLike 26 = .ok (.getfield 193, 3)) hf (fun x26 hf => ?_)
  refine r_icmp_ge hB (tgt := 64) (by decide +kernel : decode cX12_isLike 29 = .ok (.if_icmp .ge 35, 3)) (by decide) hf (fun _ hf => ?_) (fun _ hf => ?_)
  · obtain ⟨_, hx0, rfl⟩ := xr_inv hf
    exact WW.sub [2] rfl (t_X12_isLike_64 hB hx0 hk)
  · refine r_iload_n hB 2 rfl (by decide +kernel : decode cX12_isLike 32 = .ok (.iload_n 2, 1)) rfl ?_
    refine r_if_eq hB (tgt := 64) (by decide +kernel : decode cX12_isLike 33 = .ok (.ifCond .eq 31, 3)) (by decide) hf (fun _ hf => ?_) (fun _ hf => ?_)
    · obtain ⟨_, hx0, rfl⟩ := xr_inv hf
      exact WW.sub [2] rfl (t_X12_isLike_64 hB hx0 hk)
    · refine r_aload_n hB 0 rfl (by decide +kernel : decode cX12_isLike 36 = .ok (.aload_n 0, 1)) rfl ?_
      refine r_aload_n hB 0 rfl (by decide +kernel : decode cX12_isLike 37 = .ok (.aload_n 0, 1)) rfl ?_
      refine r_gR hB cf12 0 (by decide) (own := "PulseRemoteModel") rfl (Or.inl k_1115) (by decide +kernel) (by decide +kernel : decode cX12_isLike 38 = .ok (.getfield 7, 3)) hf (fun x38 hf => ?_)
      refine r_iload_n hB 1 rfl (by decide +kernel : decode cX12_isLike 41 = .ok (.iload_n 1, 1)) rfl ?_
      refine r_cSi hB [.int l1] [.ref (b + x38), .ref (b + l0)] (own := "PulseRemoteModel") rfl cmX12_trainAt smX12_trainAt (Or.inl ⟨rfl, k_1370⟩) (by decide) rfl rfl rfl (Nat.le_of_ble_eq_true rfl) (by decide +kernel : decode cX12_isLike 42 = .ok (.invokestatic 196, 3)) (fun z hz => m_X12_trainAt _ _ _ _ hz) rfl hf (fun z42 hf => ?_)
      refine r_iload_n hB 3 rfl (by decide +kernel : decode cX12_isLike 45 = .ok (.iload_n 3, 1)) rfl ?_
      refine r_iadd hB (by decide +kernel : decode cX12_isLike 46 = .ok (.iadd, 1)) ?_
      refine r_iald hB (by decide +kernel : decode cX12_isLike 47 = .ok (.iaload, 1)) hf (fun x47 hf => ?_)
      refine r_aload_n hB 0 rfl (by decide +kernel : decode cX12_isLike 48 = .ok (.aload_n 0, 1)) rfl ?_
      refine r_gR hB cf12 13 (by decide) (own := "PulseRemoteModel") rfl (Or.inl k_1128) (by decide +kernel) (by decide +kernel : decode cX12_isLike 49 = .ok (.getfield 26, 3)) hf (fun x49 hf => ?_)
      refine r_iload_n hB 3 rfl (by decide +kernel : decode cX12_isLike 52 = .ok (.iload_n 3, 1)) rfl ?_
      refine r_iald hB (by decide +kernel : decode cX12_isLike 53 = .ok (.iaload, 1)) hf (fun x53 hf => ?_)
      refine r_cVi hB [.int x47, .int x53] [] cf12 (own := "PulseRemoteModel") rfl cmX12_matches imX12_matches (Or.inl k_1464) (by decide) rfl rfl rfl (Nat.le_of_ble_eq_true rfl) (by decide +kernel : decode cX12_isLike 54 = .ok (.invokevirtual 232, 3)) (fun z hz => m_X12_matches _ _ _ _ hz) rfl hf (fun z54 hf => ?_)
      refine r_istore_n hB (by decide +kernel : decode cX12_isLike 57 = .ok (.istore_n 2, 1)) rfl (by decide) rfl ?_
      refine ww_lv (lv' := [(2, .int z54.1), (0, .ref (b + l0)), (1, .int l1), (3, .int l3)]) rfl ?_
      refine r_iincB hB 3 rfl (by decide +kernel : decode cX12_isLike 58 = .ok (.iinc 3 1, 3)) (w := 1) (by decide +kernel) (by decide) hf (fun v58 hf => ?_)
      refine ww_lv (lv' := [(3, .int v58), (2, .int z54.1), (0, .ref (b + l0)), (1, .int l1)]) rfl ?_
      refine r_goto hB (tgt := 24) (by decide +kernel : decode cX12_isLike 61 = .ok (.goto (-37), 3)) (by decide) ?_
      obtain rfl := Option.some.inj hf
      exact WW.sub [2, 3, 1, 0] rfl hk
set_option maxHeartbeats 4000000 in
set_option maxRecDepth 100000 in
theorem t_X12_isLike_24 {X : BX} {D : va_G} {cy : Nat → ClassId} {b : Nat} {r : Option Value} {μ' : MS} (hB : BB X D cy b yX12_isLike cX12_isLike 4 (some .boolean) rmX12_isLike) {l0 : Nat} {l1 : Int32} {l2 : Int32} {l3 : Int32} {μ : MS} {z : (Int32 × MS)} (hf : f_X12_isLike_24 l0 l1 l2 l3 μ = some z) (hk : (fun z : Int32 × MS => r = some (.int z.1) ∧ μ' = z.2) z) : WW X D cy b r μ' 4 0 0 24 [(0, .ref (b + l0)), (1, .int l1), (2, .int l2), (3, .int l3)] [] μ :=
  lp_ind (P := fun s : Nat × Int32 × Int32 × Int32 × MS => WW X D cy b r μ' 4 0 0 24 [(0, .ref (b + s.1)), (1, .int s.2.1), (2, .int s.2.2.1), (3, .int s.2.2.2.1)] [] s.2.2.2.2) (Q := (fun z : Int32 × MS => r = some (.int z.1) ∧ μ' = z.2)) (fun s z hz hk => t_X12_isLike_24_b hB hz hk) (l0, l1, l2, l3, μ) z hf hk
set_option maxHeartbeats 4000000 in
set_option maxRecDepth 100000 in
theorem t_X12_isLike_21 {X : BX} {D : va_G} {cy : Nat → ClassId} {b : Nat} {r : Option Value} {μ' : MS} (hB : BB X D cy b yX12_isLike cX12_isLike 4 (some .boolean) rmX12_isLike) {l0 : Nat} {l1 : Int32} {s0 : Int32} {μ : MS} {z : (Int32 × MS)} (hf : f_X12_isLike_21 l0 l1 s0 μ = some z) (hk : (fun z : Int32 × MS => r = some (.int z.1) ∧ μ' = z.2) z) : WW X D cy b r μ' 4 0 0 21 [(0, .ref (b + l0)), (1, .int l1)] [.int s0] μ := by
  unfold f_X12_isLike_21 at hf
  refine r_istore_n hB (by decide +kernel : decode cX12_isLike 21 = .ok (.istore_n 2, 1)) rfl (by decide) rfl ?_
  refine ww_lv (lv' := [(2, .int s0), (0, .ref (b + l0)), (1, .int l1)]) rfl ?_
  refine r_iconst hB (v := 0) (by decide +kernel : decode cX12_isLike 22 = .ok (.iconst 0, 1)) (by decide +kernel) ?_
  refine r_istore_n hB (by decide +kernel : decode cX12_isLike 23 = .ok (.istore_n 3, 1)) rfl (by decide) rfl ?_
  refine ww_lv (lv' := [(3, .int 0), (2, .int s0), (0, .ref (b + l0)), (1, .int l1)]) rfl ?_
  exact WW.sub [2, 3, 1, 0] rfl (t_X12_isLike_24 hB hf hk)
set_option maxHeartbeats 4000000 in
set_option maxRecDepth 100000 in
theorem t_X12_isLike_0 {X : BX} {D : va_G} {cy : Nat → ClassId} {b : Nat} {r : Option Value} {μ' : MS} (hB : BB X D cy b yX12_isLike cX12_isLike 4 (some .boolean) rmX12_isLike) {l0 : Nat} {l1 : Int32} {μ : MS} {z : (Int32 × MS)} (hf : f_X12_isLike l0 l1 μ = some z) (hk : (fun z : Int32 × MS => r = some (.int z.1) ∧ μ' = z.2) z) : WW X D cy b r μ' 4 0 0 0 [(0, .ref (b + l0)), (1, .int l1)] [] μ := by
  unfold f_X12_isLike at hf
  refine r_aload_n hB 0 rfl (by decide +kernel : decode cX12_isLike 0 = .ok (.aload_n 0, 1)) rfl ?_
  refine r_gR hB cf12 0 (by decide) (own := "PulseRemoteModel") rfl (Or.inl k_1115) (by decide +kernel) (by decide +kernel : decode cX12_isLike 1 = .ok (.getfield 7, 3)) hf (fun x1 hf => ?_)
  refine r_bipush hB (v := 83) (by decide +kernel : decode cX12_isLike 4 = .ok (.bipush 83, 2)) (by decide +kernel) ?_
  refine r_iload_n hB 1 rfl (by decide +kernel : decode cX12_isLike 6 = .ok (.iload_n 1, 1)) rfl ?_
  refine r_iadd hB (by decide +kernel : decode cX12_isLike 7 = .ok (.iadd, 1)) ?_
  refine r_iald hB (by decide +kernel : decode cX12_isLike 8 = .ok (.iaload, 1)) hf (fun x8 hf => ?_)
  refine r_aload_n hB 0 rfl (by decide +kernel : decode cX12_isLike 9 = .ok (.aload_n 0, 1)) rfl ?_
  refine r_gI hB cf12 14 (by decide) (own := "PulseRemoteModel") rfl (Or.inl k_1129) (by decide +kernel) (by decide +kernel : decode cX12_isLike 10 = .ok (.getfield 193, 3)) hf (fun x10 hf => ?_)
  refine r_icmp_ne hB (tgt := 20) (by decide +kernel : decode cX12_isLike 13 = .ok (.if_icmp .ne 7, 3)) (by decide) hf (fun _ hf => ?_) (fun _ hf => ?_)
  · refine r_iconst hB (v := 1) (by decide +kernel : decode cX12_isLike 16 = .ok (.iconst 1, 1)) (by decide +kernel) ?_
    refine r_goto hB (tgt := 21) (by decide +kernel : decode cX12_isLike 17 = .ok (.goto 4, 3)) (by decide) ?_
    exact WW.sub [0, 1] rfl (t_X12_isLike_21 hB hf hk)
  · refine r_iconst hB (v := 0) (by decide +kernel : decode cX12_isLike 20 = .ok (.iconst 0, 1)) (by decide +kernel) ?_
    exact WW.sub [0, 1] rfl (t_X12_isLike_21 hB hf hk)
theorem m_X12_isLike (l : Launch) (D : va_G) (cy : Nat → ClassId) (b : Nat) {l0 : Nat} {l1 : Int32} {μ : MS} {z : Int32 × MS} (hf : f_X12_isLike l0 l1 μ = some z) : Met l yX12_isLike (.code yX12_isLike cX12_isLike 4 (some .boolean) :: GW) rmX12_isLike (Pw D cy b [.ref (b + l0), .int l1] μ) (Qw D cy b (some (.int z.1)) (z.2)) rmX12_isLike.cells rmX12_isLike.slots (fun q => b ≤ q) :=
  met_of (by decide) (Nat.le_of_ble_eq_true rfl) (fun X hB _ => (t_X12_isLike_0 hB hf ⟨rfl, rfl⟩))
-- PulseRemoteModel.explain(III)I
set_option maxHeartbeats 4000000 in
set_option maxRecDepth 100000 in
theorem t_X12_explain_142 {X : BX} {D : va_G} {cy : Nat → ClassId} {b : Nat} {r : Option Value} {μ' : MS} (hB : BB X D cy b yX12_explain cX12_explain 7 (some .int) rmX12_explain)  {μ : MS} {z : (Int32 × MS)} (hf : f_X12_explain_142  μ = some z) (hk : (fun z : Int32 × MS => r = some (.int z.1) ∧ μ' = z.2) z) : WW X D cy b r μ' 7 0 0 142 [] [] μ := by
  unfold f_X12_explain_142 at hf
  refine r_bipush hB (v := (-9)) (by decide +kernel : decode cX12_explain 142 = .ok (.bipush (-9), 2)) (by decide +kernel) ?_
  obtain rfl := Option.some.inj hf
  obtain ⟨rfl, rfl⟩ := hk
  exact r_iret hB (by decide +kernel : decode cX12_explain 144 = .ok (.ireturn, 1))
set_option maxHeartbeats 4000000 in
set_option maxRecDepth 100000 in
theorem t_X12_explain_136 {X : BX} {D : va_G} {cy : Nat → ClassId} {b : Nat} {r : Option Value} {μ' : MS} (hB : BB X D cy b yX12_explain cX12_explain 7 (some .int) rmX12_explain) {l0 : Nat} {l1 : Int32} {l2 : Int32} {l3 : Int32} {l4 : Int32} {μ : MS} {z : ((Nat × Int32 × Int32 × Int32 × Int32 × MS) ⊕ (Int32 × MS))} (hf : f_X12_explain_136 l0 l1 l2 l3 l4 μ = some z) (hk : (Sum.elim (fun s : Nat × Int32 × Int32 × Int32 × Int32 × MS => WW X D cy b r μ' 7 0 0 43 [(0, .ref (b + s.1)), (1, .int s.2.1), (2, .int s.2.2.1), (3, .int s.2.2.2.1), (4, .int s.2.2.2.2.1)] [] s.2.2.2.2.2) (fun z : Int32 × MS => r = some (.int z.1) ∧ μ' = z.2)) z) : WW X D cy b r μ' 7 0 0 136 [(0, .ref (b + l0)), (1, .int l1), (2, .int l2), (3, .int l3), (4, .int l4)] [] μ := by
  unfold f_X12_explain_136 at hf
  refine r_iincB hB 4 rfl (by decide +kernel : decode cX12_explain 136 = .ok (.iinc 4 1, 3)) (w := 1) (by decide +kernel) (by decide) hf (fun v136 hf => ?_)
  refine ww_lv (lv' := [(4, .int v136), (0, .ref (b + l0)), (1, .int l1), (2, .int l2), (3, .int l3)]) rfl ?_
  refine r_goto hB (tgt := 43) (by decide +kernel : decode cX12_explain 139 = .ok (.goto (-96), 3)) (by decide) ?_
  obtain rfl := Option.some.inj hf
  exact WW.sub [1, 2, 3, 4, 0] rfl hk
set_option maxHeartbeats 4000000 in
set_option maxRecDepth 100000 in
theorem t_X12_explain_130 {X : BX} {D : va_G} {cy : Nat → ClassId} {b : Nat} {r : Option Value} {μ' : MS} (hB : BB X D cy b yX12_explain cX12_explain 7 (some .int) rmX12_explain) {l0 : Nat} {l1 : Int32} {l2 : Int32} {l3 : Int32} {l4 : Int32} {l5 : Int32} {μ : MS} {z : ((Nat × Int32 × Int32 × Int32 × Int32 × Int32 × MS) ⊕ ((Nat × Int32 × Int32 × Int32 × Int32 × MS) ⊕ (Int32 × MS)))} (hf : f_X12_explain_130 l0 l1 l2 l3 l4 l5 μ = some z) (hk : (Sum.elim (fun s : Nat × Int32 × Int32 × Int32 × Int32 × Int32 × MS => WW X D cy b r μ' 7 0 0 58 [(0, .ref (b + s.1)), (1, .int s.2.1), (2, .int s.2.2.1), (3, .int s.2.2.2.1), (4, .int s.2.2.2.2.1), (5, .int s.2.2.2.2.2.1)] [] s.2.2.2.2.2.2) (Sum.elim (fun s : Nat × Int32 × Int32 × Int32 × Int32 × MS => WW X D cy b r μ' 7 0 0 43 [(0, .ref (b + s.1)), (1, .int s.2.1), (2, .int s.2.2.1), (3, .int s.2.2.2.1), (4, .int s.2.2.2.2.1)] [] s.2.2.2.2.2) (fun z : Int32 × MS => r = some (.int z.1) ∧ μ' = z.2))) z) : WW X D cy b r μ' 7 0 0 130 [(0, .ref (b + l0)), (1, .int l1), (2, .int l2), (3, .int l3), (4, .int l4), (5, .int l5)] [] μ := by
  unfold f_X12_explain_130 at hf
  refine r_iincB hB 5 rfl (by decide +kernel : decode cX12_explain 130 = .ok (.iinc 5 1, 3)) (w := 1) (by decide +kernel) (by decide) hf (fun v130 hf => ?_)
  refine ww_lv (lv' := [(5, .int v130), (0, .ref (b + l0)), (1, .int l1), (2, .int l2), (3, .int l3), (4, .int l4)]) rfl ?_
  refine r_goto hB (tgt := 58) (by decide +kernel : decode cX12_explain 133 = .ok (.goto (-75), 3)) (by decide) ?_
  obtain rfl := Option.some.inj hf
  exact WW.sub [1, 2, 3, 4, 5, 0] rfl hk
set_option maxHeartbeats 4000000 in
set_option maxRecDepth 100000 in
theorem t_X12_explain_100 {X : BX} {D : va_G} {cy : Nat → ClassId} {b : Nat} {r : Option Value} {μ' : MS} (hB : BB X D cy b yX12_explain cX12_explain 7 (some .int) rmX12_explain) {l2 : Int32} {l3 : Int32} {l4 : Int32} {l5 : Int32} {l6 : Int32} {μ : MS} {z : (Int32 × MS)} (hf : f_X12_explain_100 l2 l3 l4 l5 l6 μ = some z) (hk : (fun z : Int32 × MS => r = some (.int z.1) ∧ μ' = z.2) z) : WW X D cy b r μ' 7 0 0 100 [(2, .int l2), (3, .int l3), (4, .int l4), (5, .int l5), (6, .int l6)] [] μ := by
  unfold f_X12_explain_100 at hf
  refine r_iload_n hB 1 rfl (by decide +kernel : decode cX12_explain 100 = .ok (.iload_n 3, 1)) rfl ?_
  refine r_if_ne hB (tgt := 109) (by decide +kernel : decode cX12_explain 101 = .ok (.ifCond .ne 8, 3)) (by decide) hf (fun _ hf => ?_) (fun _ hf => ?_)
  · refine r_iload hB 2 rfl (by decide +kernel : decode cX12_explain 104 = .ok (.iload 4, 2)) ?_
    refine r_goto hB (tgt := 123) (by decide +kernel : decode cX12_explain 106 = .ok (.goto 17, 3)) (by decide) ?_
    obtain rfl := Option.some.inj hf
    obtain ⟨rfl, rfl⟩ := hk
    exact r_iret hB (by decide +kernel : decode cX12_explain 123 = .ok (.ireturn, 1))
  · refine r_iload_n hB 1 rfl (by decide +kernel : decode cX12_explain 109 = .ok (.iload_n 3, 1)) rfl ?_
    refine r_iconst hB (v := 1) (by decide +kernel : decode cX12_explain 110 = .ok (.iconst 1, 1)) (by decide +kernel) ?_
    refine r_icmp_ne hB (tgt := 119) (by decide +kernel : decode cX12_explain 111 = .ok (.if_icmp .ne 8, 3)) (by decide) hf (fun _ hf => ?_) (fun _ hf => ?_)
    · refine r_iload hB 3 rfl (by decide +kernel : decode cX12_explain 114 = .ok (.iload 5, 2)) ?_
      refine r_goto hB (tgt := 123) (by decide +kernel : decode cX12_explain 116 = .ok (.goto 7, 3)) (by decide) ?_
      obtain rfl := Option.some.inj hf
      obtain ⟨rfl, rfl⟩ := hk
      exact r_iret hB (by decide +kernel : decode cX12_explain 123 = .ok (.ireturn, 1))
    · refine r_iload hB 4 rfl (by decide +kernel : decode cX12_explain 119 = .ok (.iload 6, 2)) ?_
      refine r_iload_n hB 0 rfl (by decide +kernel : decode cX12_explain 121 = .ok (.iload_n 2, 1)) rfl ?_
      refine r_imul hB (by decide +kernel : decode cX12_explain 122 = .ok (.imul, 1)) ?_
      obtain rfl := Option.some.inj hf
      obtain ⟨rfl, rfl⟩ := hk
      exact r_iret hB (by decide +kernel : decode cX12_explain 123 = .ok (.ireturn, 1))
set_option maxHeartbeats 4000000 in
set_option maxRecDepth 100000 in
theorem t_X12_explain_73_b {X : BX} {D : va_G} {cy : Nat → ClassId} {b : Nat} {r : Option Value} {μ' : MS} (hB : BB X D cy b yX12_explain cX12_explain 7 (some .int) rmX12_explain) {l0 : Nat} {l1 : Int32} {l2 : Int32} {l3 : Int32} {l4 : Int32} {l5 : Int32} {l6 : Int32} {μ : MS} {z : ((Nat × Int32 × Int32 × Int32 × Int32 × Int32 × Int32 × MS) ⊕ ((Nat × Int32 × Int32 × Int32 × Int32 × Int32 × MS) ⊕ ((Nat × Int32 × Int32 × Int32 × Int32 × MS) ⊕ (Int32 × MS))))} (hf : f_X12_explain_73_b l0 l1 l2 l3 l4 l5 l6 μ = some z) (hk : (Sum.elim (fun s : Nat × Int32 × Int32 × Int32 × Int32 × Int32 × Int32 × MS => WW X D cy b r μ' 7 0 0 73 [(0, .ref (b + s.1)), (1, .int s.2.1), (2, .int s.2.2.1), (3, .int s.2.2.2.1), (4, .int s.2.2.2.2.1), (5, .int s.2.2.2.2.2.1), (6, .int s.2.2.2.2.2.2.1)] [] s.2.2.2.2.2.2.2) (Sum.elim (fun s : Nat × Int32 × Int32 × Int32 × Int32 × Int32 × MS => WW X D cy b r μ' 7 0 0 58 [(0, .ref (b + s.1)), (1, .int s.2.1), (2, .int s.2.2.1), (3, .int s.2.2.2.1), (4, .int s.2.2.2.2.1), (5, .int s.2.2.2.2.2.1)] [] s.2.2.2.2.2.2) (Sum.elim (fun s : Nat × Int32 × Int32 × Int32 × Int32 × MS => WW X D cy b r μ' 7 0 0 43 [(0, .ref (b + s.1)), (1, .int s.2.1), (2, .int s.2.2.1), (3, .int s.2.2.2.1), (4, .int s.2.2.2.2.1)] [] s.2.2.2.2.2) (fun z : Int32 × MS => r = some (.int z.1) ∧ μ' = z.2)))) z) : WW X D cy b r μ' 7 0 0 73 [(0, .ref (b + l0)), (1, .int l1), (2, .int l2), (3, .int l3), (4, .int l4), (5, .int l5), (6, .int l6)] [] μ := by
  unfold f_X12_explain_73_b at hf
  refine r_iload hB 6 rfl (by decide +kernel : decode cX12_explain 73 = .ok (.iload 6, 2)) ?_
  refine r_bipush hB (v := 30) (by decide +kernel : decode cX12_explain 75 = .ok (.bipush 30, 2)) (by decide +kernel) ?_
  refine r_icmp_ge hB (tgt := 130) (by decide +kernel : decode cX12_explain 77 = .ok (.if_icmp .ge 53, 3)) (by decide) hf (fun _ hf => ?_) (fun _ hf => ?_)
  · obtain ⟨_, hx0, rfl⟩ := xr_inv hf
    exact WW.sub [0, 1, 2, 3, 4, 5] rfl (t_X12_explain_130 hB hx0 hk)
  · refine r_aload_n hB 0 rfl (by decide +kernel : decode cX12_explain 80 = .ok (.aload_n 0, 1)) rfl ?_
    refine r_iload hB 4 rfl (by decide +kernel : decode cX12_explain 81 = .ok (.iload 4, 2)) ?_
    refine r_iload hB 5 rfl (by decide +kernel : decode cX12_explain 83 = .ok (.iload 5, 2)) ?_
    refine r_iload hB 6 rfl (by decide +kernel : decode cX12_explain 85 = .ok (.iload 6, 2)) ?_
    refine r_iload_n hB 2 rfl (by decide +kernel : decode cX12_explain 87 = .ok (.iload_n 2, 1)) rfl ?_
    refine r_imul hB (by decide +kernel : decode cX12_explain 88 = .ok (.imul, 1)) ?_
    refine r_cVv hB [.int l4, .int l5, .int (l6 * l2)] [] cf12 (own := "PulseRemoteModel") rfl cmX12_collides imX12_collides (Or.inl k_1541) (by decide) rfl rfl rfl (Nat.le_of_ble_eq_true rfl) (by decide +kernel : decode cX12_explain 89 = .ok (.invokevirtual 306, 3)) (fun z hz => m_X12_collides _ _ _ _ hz) rfl hf (fun z89 hf => ?_)
    refine r_aload_n hB 0 rfl (by decide +kernel : decode cX12_explain 92 = .ok (.aload_n 0, 1)) rfl ?_
    refine r_iload_n hB 1 rfl (by decide +kernel : decode cX12_explain 93 = .ok (.iload_n 1, 1)) rfl ?_
    refine r_cVi hB [.int l1] [] cf12 (own := "PulseRemoteModel") rfl cmX12_isLike imX12_isLike (Or.inl k_1545) (by decide) rfl rfl rfl (Nat.le_of_ble_eq_true rfl) (by decide +kernel : decode cX12_explain 94 = .ok (.invokevirtual 310, 3)) (fun z hz => m_X12_isLike _ _ _ _ hz) rfl hf (fun z94 hf => ?_)
    refine r_if_eq hB (tgt := 124) (by decide +kernel : decode cX12_explain 97 = .ok (.ifCond .eq 27, 3)) (by decide) hf (fun _ hf => ?_) (fun _ hf => ?_)
    · refine r_iincB hB 6 rfl (by decide +kernel : decode cX12_explain 124 = .ok (.iinc 6 1, 3)) (w := 1) (by decide +kernel) (by decide) hf (fun v124 hf => ?_)
      refine ww_lv (lv' := [(6, .int v124), (0, .ref (b + l0)), (1, .int l1), (2, .int l2), (3, .int l3), (4, .int l4), (5, .int l5)]) rfl ?_
      refine r_goto hB (tgt := 73) (by decide +kernel : decode cX12_explain 127 = .ok (.goto (-54), 3)) (by decide) ?_
      obtain rfl := Option.some.inj hf
      exact WW.sub [1, 2, 3, 4, 5, 6, 0] rfl hk
    · obtain ⟨_, hx0, rfl⟩ := xr_inv hf
      obtain ⟨_, hx1, rfl⟩ := xr_inv hx0
      obtain ⟨_, hx2, rfl⟩ := xr_inv hx1
      exact WW.sub [2, 3, 4, 5, 6] rfl (t_X12_explain_100 hB hx2 hk)
set_option maxHeartbeats 4000000 in
set_option maxRecDepth 100000 in
theorem t_X12_explain_73 {X : BX} {D : va_G} {cy : Nat → ClassId} {b : Nat} {r : Option Value} {μ' : MS} (hB : BB X D cy b yX12_explain cX12_explain 7 (some .int) rmX12_explain) {l0 : Nat} {l1 : Int32} {l2 : Int32} {l3 : Int32} {l4 : Int32} {l5 : Int32} {l6 : Int32} {μ : MS} {z : ((Nat × Int32 × Int32 × Int32 × Int32 × Int32 × MS) ⊕ ((Nat × Int32 × Int32 × Int32 × Int32 × MS) ⊕ (Int32 × MS)))} (hf : f_X12_explain_73 l0 l1 l2 l3 l4 l5 l6 μ = some z) (hk : (Sum.elim (fun s : Nat × Int32 × Int32 × Int32 × Int32 × Int32 × MS => WW X D cy b r μ' 7 0 0 58 [(0, .ref (b + s.1)), (1, .int s.2.1), (2, .int s.2.2.1), (3, .int s.2.2.2.1), (4, .int s.2.2.2.2.1), (5, .int s.2.2.2.2.2.1)] [] s.2.2.2.2.2.2) (Sum.elim (fun s : Nat × Int32 × Int32 × Int32 × Int32 × MS => WW X D cy b r μ' 7 0 0 43 [(0, .ref (b + s.1)), (1, .int s.2.1), (2, .int s.2.2.1), (3, .int s.2.2.2.1), (4, .int s.2.2.2.2.1)] [] s.2.2.2.2.2) (fun z : Int32 × MS => r = some (.int z.1) ∧ μ' = z.2))) z) : WW X D cy b r μ' 7 0 0 73 [(0, .ref (b + l0)), (1, .int l1), (2, .int l2), (3, .int l3), (4, .int l4), (5, .int l5), (6, .int l6)] [] μ :=
  lp_ind (P := fun s : Nat × Int32 × Int32 × Int32 × Int32 × Int32 × Int32 × MS => WW X D cy b r μ' 7 0 0 73 [(0, .ref (b + s.1)), (1, .int s.2.1), (2, .int s.2.2.1), (3, .int s.2.2.2.1), (4, .int s.2.2.2.2.1), (5, .int s.2.2.2.2.2.1), (6, .int s.2.2.2.2.2.2.1)] [] s.2.2.2.2.2.2.2) (Q := (Sum.elim (fun s : Nat × Int32 × Int32 × Int32 × Int32 × Int32 × MS => WW X D cy b r μ' 7 0 0 58 [(0, .ref (b + s.1)), (1, .int s.2.1), (2, .int s.2.2.1), (3, .int s.2.2.2.1), (4, .int s.2.2.2.2.1), (5, .int s.2.2.2.2.2.1)] [] s.2.2.2.2.2.2) (Sum.elim (fun s : Nat × Int32 × Int32 × Int32 × Int32 × MS => WW X D cy b r μ' 7 0 0 43 [(0, .ref (b + s.1)), (1, .int s.2.1), (2, .int s.2.2.1), (3, .int s.2.2.2.1), (4, .int s.2.2.2.2.1)] [] s.2.2.2.2.2) (fun z : Int32 × MS => r = some (.int z.1) ∧ μ' = z.2)))) (fun s z hz hk => t_X12_explain_73_b hB hz hk) (l0, l1, l2, l3, l4, l5, l6, μ) z hf hk
set_option maxHeartbeats 4000000 in
set_option maxRecDepth 100000 in
theorem t_X12_explain_58_b {X : BX} {D : va_G} {cy : Nat → ClassId} {b : Nat} {r : Option Value} {μ' : MS} (hB : BB X D cy b yX12_explain cX12_explain 7 (some .int) rmX12_explain) {l0 : Nat} {l1 : Int32} {l2 : Int32} {l3 : Int32} {l4 : Int32} {l5 : Int32} {μ : MS} {z : ((Nat × Int32 × Int32 × Int32 × Int32 × Int32 × MS) ⊕ ((Nat × Int32 × Int32 × Int32 × Int32 × MS) ⊕ (Int32 × MS)))} (hf : f_X12_explain_58_b l0 l1 l2 l3 l4 l5 μ = some z) (hk : (Sum.elim (fun s : Nat × Int32 × Int32 × Int32 × Int32 × Int32 × MS => WW X D cy b r μ' 7 0 0 58 [(0, .ref (b + s.1)), (1, .int s.2.1), (2, .int s.2.2.1), (3, .int s.2.2.2.1), (4, .int s.2.2.2.2.1), (5, .int s.2.2.2.2.2.1)] [] s.2.2.2.2.2.2) (Sum.elim (fun s : Nat × Int32 × Int32 × Int32 × Int32 × MS => WW X D cy b r μ' 7 0 0 43 [(0, .ref (b + s.1)), (1, .int s.2.1), (2, .int s.2.2.1), (3, .int s.2.2.2.1), (4, .int s.2.2.2.2.1)] [] s.2.2.2.2.2) (fun z : Int32 × MS => r = some (.int z.1) ∧ μ' = z.2))) z) : WW X D cy b r μ' 7 0 0 58 [(0, .ref (b + l0)), (1, .int l1), (2, .int l2), (3, .int l3), (4, .int l4), (5, .int l5)] [] μ := by
  unfold f_X12_explain_58_b at hf
  refine r_iload hB 5 rfl (by decide +kernel : decode cX12_explain 58 = .ok (.iload 5, 2)) ?_
  refine r_aload_n hB 0 rfl (by decide +kernel : decode cX12_explain 60 = .ok (.aload_n 0, 1)) rfl ?_
  refine r_gR hB cf12 0 (by decide) (own := "PulseRemoteModel") rfl (Or.inl k_1115) (by decide +kernel) (by decide +kernel : decode cX12_explain 61 = .ok (.getfield 7, 3)) hf (fun x61 hf => ?_)
  refine r_bipush hB (v := 58) (by decide +kernel : decode cX12_explain 64 = .ok (.bipush 58, 2)) (by decide +kernel) ?_
  refine r_iald hB (by decide +kernel : decode cX12_explain 66 = .ok (.iaload, 1)) hf (fun x66 hf => ?_)
  refine r_icmp_ge hB (tgt := 136) (by decide +kernel : decode cX12_explain 67 = .ok (.if_icmp .ge 69, 3)) (by decide) hf (fun _ hf => ?_) (fun _ hf => ?_)
  · obtain ⟨_, hx0, rfl⟩ := xr_inv hf
    exact WW.sub [0, 1, 2, 3, 4] rfl (t_X12_explain_136 hB hx0 hk)
  · refine r_iconst hB (v := 0) (by decide +kernel : decode cX12_explain 70 = .ok (.iconst 0, 1)) (by decide +kernel) ?_
    refine r_istore hB (by decide +kernel : decode cX12_explain 71 = .ok (.istore 6, 2)) (by decide) rfl ?_
    refine ww_lv (lv' := [(6, .int 0), (0, .ref (b + l0)), (1, .int l1), (2, .int l2), (3, .int l3), (4, .int l4), (5, .int l5)]) rfl ?_
    exact WW.sub [1, 2, 3, 4, 5, 6, 0] rfl (t_X12_explain_73 hB hf hk)
set_option maxHeartbeats 4000000 in
set_option maxRecDepth 100000 in
theorem t_X12_explain_58 {X : BX} {D : va_G} {cy : Nat → ClassId} {b : Nat} {r : Option Value} {μ' : MS} (hB : BB X D cy b yX12_explain cX12_explain 7 (some .int) rmX12_explain) {l0 : Nat} {l1 : Int32} {l2 : Int32} {l3 : Int32} {l4 : Int32} {l5 : Int32} {μ : MS} {z : ((Nat × Int32 × Int32 × Int32 × Int32 × MS) ⊕ (Int32 × MS))} (hf : f_X12_explain_58 l0 l1 l2 l3 l4 l5 μ = some z) (hk : (Sum.elim (fun s : Nat × Int32 × Int32 × Int32 × Int32 × MS => WW X D cy b r μ' 7 0 0 43 [(0, .ref (b + s.1)), (1, .int s.2.1), (2, .int s.2.2.1), (3, .int s.2.2.2.1), (4, .int s.2.2.2.2.1)] [] s.2.2.2.2.2) (fun z : Int32 × MS => r = some (.int z.1) ∧ μ' = z.2)) z) : WW X D cy b r μ' 7 0 0 58 [(0, .ref (b + l0)), (1, .int l1), (2, .int l2), (3, .int l3), (4, .int l4), (5, .int l5)] [] μ :=
  lp_ind (P := fun s : Nat × Int32 × Int32 × Int32 × Int32 × Int32 × MS => WW X D cy b r μ' 7 0 0 58 [(0, .ref (b + s.1)), (1, .int s.2.1), (2, .int s.2.2.1), (3, .int s.2.2.2.1), (4, .int s.2.2.2.2.1), (5, .int s.2.2.2.2.2.1)] [] s.2.2.2.2.2.2) (Q := (Sum.elim (fun s : Nat × Int32 × Int32 × Int32 × Int32 × MS => WW X D cy b r μ' 7 0 0 43 [(0, .ref (b + s.1)), (1, .int s.2.1), (2, .int s.2.2.1), (3, .int s.2.2.2.1), (4, .int s.2.2.2.2.1)] [] s.2.2.2.2.2) (fun z : Int32 × MS => r = some (.int z.1) ∧ μ' = z.2))) (fun s z hz hk => t_X12_explain_58_b hB hz hk) (l0, l1, l2, l3, l4, l5, μ) z hf hk
set_option maxHeartbeats 4000000 in
set_option maxRecDepth 100000 in
theorem t_X12_explain_43_b {X : BX} {D : va_G} {cy : Nat → ClassId} {b : Nat} {r : Option Value} {μ' : MS} (hB : BB X D cy b yX12_explain cX12_explain 7 (some .int) rmX12_explain) {l0 : Nat} {l1 : Int32} {l2 : Int32} {l3 : Int32} {l4 : Int32} {μ : MS} {z : ((Nat × Int32 × Int32 × Int32 × Int32 × MS) ⊕ (Int32 × MS))} (hf : f_X12_explain_43_b l0 l1 l2 l3 l4 μ = some z) (hk : (Sum.elim (fun s : Nat × Int32 × Int32 × Int32 × Int32 × MS => WW X D cy b r μ' 7 0 0 43 [(0, .ref (b + s.1)), (1, .int s.2.1), (2, .int s.2.2.1), (3, .int s.2.2.2.1), (4, .int s.2.2.2.2.1)] [] s.2.2.2.2.2) (fun z : Int32 × MS => r = some (.int z.1) ∧ μ' = z.2)) z) : WW X D cy b r μ' 7 0 0 43 [(0, .ref (b + l0)), (1, .int l1), (2, .int l2), (3, .int l3), (4, .int l4)] [] μ := by
  unfold f_X12_explain_43_b at hf
  refine r_iload hB 4 rfl (by decide +kernel : decode cX12_explain 43 = .ok (.iload 4, 2)) ?_
  refine r_aload_n hB 0 rfl (by decide +kernel : decode cX12_explain 45 = .ok (.aload_n 0, 1)) rfl ?_
  refine r_gR hB cf12 0 (by decide) (own := "PulseRemoteModel") rfl (Or.inl k_1115) (by decide +kernel) (by decide +kernel : decode cX12_explain 46 = .ok (.getfield 7, 3)) hf (fun x46 hf => ?_)
  refine r_bipush hB (v := 58) (by decide +kernel : decode cX12_explain 49 = .ok (.bipush 58, 2)) (by decide +kernel) ?_
  refine r_iald hB (by decide +kernel : decode cX12_explain 51 = .ok (.iaload, 1)) hf (fun x51 hf => ?_)
  refine r_icmp_ge hB (tgt := 142) (by decide +kernel : decode cX12_explain 52 = .ok (.if_icmp .ge 90, 3)) (by decide) hf (fun _ hf => ?_) (fun _ hf => ?_)
  · obtain ⟨_, hx0, rfl⟩ := xr_inv hf
    exact WW.sub [] rfl (t_X12_explain_142 hB hx0 hk)
  · refine r_iconst hB (v := 0) (by decide +kernel : decode cX12_explain 55 = .ok (.iconst 0, 1)) (by decide +kernel) ?_
    refine r_istore hB (by decide +kernel : decode cX12_explain 56 = .ok (.istore 5, 2)) (by decide) rfl ?_
    refine ww_lv (lv' := [(5, .int 0), (0, .ref (b + l0)), (1, .int l1), (2, .int l2), (3, .int l3), (4, .int l4)]) rfl ?_
    exact WW.sub [1, 2, 3, 4, 5, 0] rfl (t_X12_explain_58 hB hf hk)
set_option maxHeartbeats 4000000 in
set_option maxRecDepth 100000 in
theorem t_X12_explain_43 {X : BX} {D : va_G} {cy : Nat → ClassId} {b : Nat} {r : Option Value} {μ' : MS} (hB : BB X D cy b yX12_explain cX12_explain 7 (some .int) rmX12_explain) {l0 : Nat} {l1 : Int32} {l2 : Int32} {l3 : Int32} {l4 : Int32} {μ : MS} {z : (Int32 × MS)} (hf : f_X12_explain_43 l0 l1 l2 l3 l4 μ = some z) (hk : (fun z : Int32 × MS => r = some (.int z.1) ∧ μ' = z.2) z) : WW X D cy b r μ' 7 0 0 43 [(0, .ref (b + l0)), (1, .int l1), (2, .int l2), (3, .int l3), (4, .int l4)] [] μ :=
  lp_ind (P := fun s : Nat × Int32 × Int32 × Int32 × Int32 × MS => WW X D cy b r μ' 7 0 0 43 [(0, .ref (b + s.1)), (1, .int s.2.1), (2, .int s.2.2.1), (3, .int s.2.2.2.1), (4, .int s.2.2.2.2.1)] [] s.2.2.2.2.2) (Q := (fun z : Int32 × MS => r = some (.int z.1) ∧ μ' = z.2)) (fun s z hz hk => t_X12_explain_43_b hB hz hk) (l0, l1, l2, l3, l4, μ) z hf hk
set_option maxHeartbeats 4000000 in
set_option maxRecDepth 100000 in
theorem t_X12_explain_0 {X : BX} {D : va_G} {cy : Nat → ClassId} {b : Nat} {r : Option Value} {μ' : MS} (hB : BB X D cy b yX12_explain cX12_explain 7 (some .int) rmX12_explain) {l0 : Nat} {l1 : Int32} {l2 : Int32} {l3 : Int32} {μ : MS} {z : (Int32 × MS)} (hf : f_X12_explain l0 l1 l2 l3 μ = some z) (hk : (fun z : Int32 × MS => r = some (.int z.1) ∧ μ' = z.2) z) : WW X D cy b r μ' 7 0 0 0 [(0, .ref (b + l0)), (1, .int l1), (2, .int l2), (3, .int l3)] [] μ := by
  unfold f_X12_explain at hf
  refine r_iload_n hB 1 rfl (by decide +kernel : decode cX12_explain 0 = .ok (.iload_n 1, 1)) rfl ?_
  refine r_cSi hB [.int l1] [] (own := "PulseRemoteModel") rfl cmX12_isSlot smX12_isSlot (Or.inl ⟨rfl, k_1367⟩) (by decide) rfl rfl rfl (Nat.le_of_ble_eq_true rfl) (by decide +kernel : decode cX12_explain 1 = .ok (.invokestatic 199, 3)) (fun z hz => m_X12_isSlot _ _ _ _ hz) rfl hf (fun z1 hf => ?_)
  refine r_if_eq hB (tgt := 28) (by decide +kernel : decode cX12_explain 4 = .ok (.ifCond .eq 24, 3)) (by decide) hf (fun _ hf => ?_) (fun _ hf => ?_)
  · refine r_iconst hB (v := (-1)) (by decide +kernel : decode cX12_explain 28 = .ok (.iconst (-1), 1)) (by decide +kernel) ?_
    obtain rfl := Option.some.inj hf
    obtain ⟨rfl, rfl⟩ := hk
    exact r_iret hB (by decide +kernel : decode cX12_explain 29 = .ok (.ireturn, 1))
  · refine r_iload_n hB 2 rfl (by decide +kernel : decode cX12_explain 7 = .ok (.iload_n 2, 1)) rfl ?_
    refine r_bipush hB (v := 50) (by decide +kernel : decode cX12_explain 8 = .ok (.bipush 50, 2)) (by decide +kernel) ?_
    refine r_sipush hB (v := 2000) (by decide +kernel : decode cX12_explain 10 = .ok (.sipush 2000, 3)) (by decide +kernel) ?_
    refine r_cSi hB [.int l2, .int 50, .int 2000] [] (own := "PulseRemoteModel") rfl cmX12_in smX12_in (Or.inl ⟨rfl, k_1233⟩) (by decide) rfl rfl rfl (Nat.le_of_ble_eq_true rfl) (by decide +kernel : decode cX12_explain 13 = .ok (.invokestatic 68, 3)) (fun z hz => m_X12_in _ _ _ _ hz) rfl hf (fun z13 hf => ?_)
    refine r_if_eq hB (tgt := 28) (by decide +kernel : decode cX12_explain 16 = .ok (.ifCond .eq 12, 3)) (by decide) hf (fun _ hf => ?_) (fun _ hf => ?_)
    · refine r_iconst hB (v := (-1)) (by decide +kernel : decode cX12_explain 28 = .ok (.iconst (-1), 1)) (by decide +kernel) ?_
      obtain rfl := Option.some.inj hf
      obtain ⟨rfl, rfl⟩ := hk
      exact r_iret hB (by decide +kernel : decode cX12_explain 29 = .ok (.ireturn, 1))
    · refine r_iload_n hB 3 rfl (by decide +kernel : decode cX12_explain 19 = .ok (.iload_n 3, 1)) rfl ?_
      refine r_iconst hB (v := 0) (by decide +kernel : decode cX12_explain 20 = .ok (.iconst 0, 1)) (by decide +kernel) ?_
      refine r_iconst hB (v := 2) (by decide +kernel : decode cX12_explain 21 = .ok (.iconst 2, 1)) (by decide +kernel) ?_
      refine r_cSi hB [.int l3, .int 0, .int 2] [] (own := "PulseRemoteModel") rfl cmX12_in smX12_in (Or.inl ⟨rfl, k_1233⟩) (by decide) rfl rfl rfl (Nat.le_of_ble_eq_true rfl) (by decide +kernel : decode cX12_explain 22 = .ok (.invokestatic 68, 3)) (fun z hz => m_X12_in _ _ _ _ hz) rfl hf (fun z22 hf => ?_)
      refine r_if_ne hB (tgt := 30) (by decide +kernel : decode cX12_explain 25 = .ok (.ifCond .ne 5, 3)) (by decide) hf (fun _ hf => ?_) (fun _ hf => ?_)
      · refine r_iconst hB (v := (-1)) (by decide +kernel : decode cX12_explain 28 = .ok (.iconst (-1), 1)) (by decide +kernel) ?_
        obtain rfl := Option.some.inj hf
        obtain ⟨rfl, rfl⟩ := hk
        exact r_iret hB (by decide +kernel : decode cX12_explain 29 = .ok (.ireturn, 1))
      · refine r_aload_n hB 0 rfl (by decide +kernel : decode cX12_explain 30 = .ok (.aload_n 0, 1)) rfl ?_
        refine r_aload_n hB 0 rfl (by decide +kernel : decode cX12_explain 31 = .ok (.aload_n 0, 1)) rfl ?_
        refine r_gR hB cf12 0 (by decide) (own := "PulseRemoteModel") rfl (Or.inl k_1115) (by decide +kernel) (by decide +kernel : decode cX12_explain 32 = .ok (.getfield 7, 3)) hf (fun x32 hf => ?_)
        refine r_iconst hB (v := 2) (by decide +kernel : decode cX12_explain 35 = .ok (.iconst 2, 1)) (by decide +kernel) ?_
        refine r_iald hB (by decide +kernel : decode cX12_explain 36 = .ok (.iaload, 1)) hf (fun x36 hf => ?_)
        refine r_pI hB cf12 22 (by decide) (own := "PulseRemoteModel") rfl (Or.inl k_1137) (Or.inl rfl) rfl (by decide +kernel : decode cX12_explain 37 = .ok (.putfield 229, 3)) hf (fun m37 hf => ?_)
        refine r_iconst hB (v := 0) (by decide +kernel : decode cX12_explain 40 = .ok (.iconst 0, 1)) (by decide +kernel) ?_
        refine r_istore hB (by decide +kernel : decode cX12_explain 41 = .ok (.istore 4, 2)) (by decide) rfl ?_
        refine ww_lv (lv' := [(4, .int 0), (0, .ref (b + l0)), (1, .int l1), (2, .int l2), (3, .int l3)]) rfl ?_
        exact WW.sub [1, 2, 3, 4, 0] rfl (t_X12_explain_43 hB hf hk)
theorem m_X12_explain (l : Launch) (D : va_G) (cy : Nat → ClassId) (b : Nat) {l0 : Nat} {l1 : Int32} {l2 : Int32} {l3 : Int32} {μ : MS} {z : Int32 × MS} (hf : f_X12_explain l0 l1 l2 l3 μ = some z) : Met l yX12_explain (.code yX12_explain cX12_explain 7 (some .int) :: GW) rmX12_explain (Pw D cy b [.ref (b + l0), .int l1, .int l2, .int l3] μ) (Qw D cy b (some (.int z.1)) (z.2)) rmX12_explain.cells rmX12_explain.slots (fun q => b ≤ q) :=
  met_of (by decide) (Nat.le_of_ble_eq_true rfl) (fun X hB _ => (t_X12_explain_0 hB hf ⟨rfl, rfl⟩))
-- PulseRemoteModel.ghosts(I)I
set_option maxHeartbeats 4000000 in
set_option maxRecDepth 100000 in
theorem t_X12_ghosts_185 {X : BX} {D : va_G} {cy : Nat → ClassId} {b : Nat} {r : Option Value} {μ' : MS} (hB : BB X D cy b yX12_ghosts cX12_ghosts 8 (some .int) rmX12_ghosts) {l2 : Int32} {μ : MS} {z : (Int32 × MS)} (hf : f_X12_ghosts_185 l2 μ = some z) (hk : (fun z : Int32 × MS => r = some (.int z.1) ∧ μ' = z.2) z) : WW X D cy b r μ' 8 0 0 185 [(2, .int l2)] [] μ := by
  unfold f_X12_ghosts_185 at hf
  refine r_iload_n hB 0 rfl (by decide +kernel : decode cX12_ghosts 185 = .ok (.iload_n 2, 1)) rfl ?_
  obtain rfl := Option.some.inj hf
  obtain ⟨rfl, rfl⟩ := hk
  exact r_iret hB (by decide +kernel : decode cX12_ghosts 186 = .ok (.ireturn, 1))
set_option maxHeartbeats 4000000 in
set_option maxRecDepth 100000 in
theorem t_X12_ghosts_179 {X : BX} {D : va_G} {cy : Nat → ClassId} {b : Nat} {r : Option Value} {μ' : MS} (hB : BB X D cy b yX12_ghosts cX12_ghosts 8 (some .int) rmX12_ghosts) {l0 : Nat} {l1 : Int32} {l2 : Int32} {l3 : Int32} {μ : MS} {z : ((Nat × Int32 × Int32 × Int32 × MS) ⊕ (Int32 × MS))} (hf : f_X12_ghosts_179 l0 l1 l2 l3 μ = some z) (hk : (Sum.elim (fun s : Nat × Int32 × Int32 × Int32 × MS => WW X D cy b r μ' 8 0 0 26 [(0, .ref (b + s.1)), (1, .int s.2.1), (2, .int s.2.2.1), (3, .int s.2.2.2.1)] [] s.2.2.2.2) (fun z : Int32 × MS => r = some (.int z.1) ∧ μ' = z.2)) z) : WW X D cy b r μ' 8 0 0 179 [(0, .ref (b + l0)), (1, .int l1), (2, .int l2), (3, .int l3)] [] μ := by
  unfold f_X12_ghosts_179 at hf
  refine r_iincB hB 3 rfl (by decide +kernel : decode cX12_ghosts 179 = .ok (.iinc 3 1, 3)) (w := 1) (by decide +kernel) (by decide) hf (fun v179 hf => ?_)
  refine ww_lv (lv' := [(3, .int v179), (0, .ref (b + l0)), (1, .int l1), (2, .int l2)]) rfl ?_
  refine r_goto hB (tgt := 26) (by decide +kernel : decode cX12_ghosts 182 = .ok (.goto (-156), 3)) (by decide) ?_
  obtain rfl := Option.some.inj hf
  exact WW.sub [1, 2, 3, 0] rfl hk
set_option maxHeartbeats 4000000 in
set_option maxRecDepth 100000 in
theorem t_X12_ghosts_171 {X : BX} {D : va_G} {cy : Nat → ClassId} {b : Nat} {r : Option Value} {μ' : MS} (hB : BB X D cy b yX12_ghosts cX12_ghosts 8 (some .int) rmX12_ghosts) {l0 : Nat} {l1 : Int32} {l3 : Int32} {l4 : Int32} {s0 : Int32} {s1 : Int32} {μ : MS} {z : ((Nat × Int32 × Int32 × Int32 × Int32 × MS) ⊕ ((Nat × Int32 × Int32 × Int32 × MS) ⊕ (Int32 × MS)))} (hf : f_X12_ghosts_171 l0 l1 l3 l4 s0 s1 μ = some z) (hk : (Sum.elim (fun s : Nat × Int32 × Int32 × Int32 × Int32 × MS => WW X D cy b r μ' 8 0 0 40 [(0, .ref (b + s.1)), (1, .int s.2.1), (2, .int s.2.2.1), (3, .int s.2.2.2.1), (4, .int s.2.2.2.2.1)] [] s.2.2.2.2.2) (Sum.elim (fun s : Nat × Int32 × Int32 × Int32 × MS => WW X D cy b r μ' 8 0 0 26 [(0, .ref (b + s.1)), (1, .int s.2.1), (2, .int s.2.2.1), (3, .int s.2.2.2.1)] [] s.2.2.2.2) (fun z : Int32 × MS => r = some (.int z.1) ∧ μ' = z.2))) z) : WW X D cy b r μ' 8 0 0 171 [(0, .ref (b + l0)), (1, .int l1), (3, .int l3), (4, .int l4)] [.int s0, .int s1] μ := by
  unfold f_X12_ghosts_171 at hf
  refine r_iadd hB (by decide +kernel : decode cX12_ghosts 171 = .ok (.iadd, 1)) ?_
  refine r_name hf (fun v172 hf => ?_)
  refine r_istore_n hB (by decide +kernel : decode cX12_ghosts 172 = .ok (.istore_n 2, 1)) rfl (by decide) rfl ?_
  refine ww_lv (lv' := [(2, .int v172), (0, .ref (b + l0)), (1, .int l1), (3, .int l3), (4, .int l4)]) rfl ?_
  refine r_iincB hB 4 rfl (by decide +kernel : decode cX12_ghosts 173 = .ok (.iinc 4 1, 3)) (w := 1) (by decide +kernel) (by decide) hf (fun v173 hf => ?_)
  refine ww_lv (lv' := [(4, .int v173), (2, .int v172), (0, .ref (b + l0)), (1, .int l1), (3, .int l3)]) rfl ?_
  refine r_goto hB (tgt := 40) (by decide +kernel : decode cX12_ghosts 176 = .ok (.goto (-136), 3)) (by decide) ?_
  obtain rfl := Option.some.inj hf
  exact WW.sub [2, 3, 1, 4, 0] rfl hk
set_option maxHeartbeats 4000000 in
set_option maxRecDepth 100000 in
theorem t_X12_ghosts_160 {X : BX} {D : va_G} {cy : Nat → ClassId} {b : Nat} {r : Option Value} {μ' : MS} (hB : BB X D cy b yX12_ghosts cX12_ghosts 8 (some .int) rmX12_ghosts) {l0 : Nat} {l1 : Int32} {l2 : Int32} {l3 : Int32} {l4 : Int32} {l5 : Int32} {μ : MS} {z : ((Nat × Int32 × Int32 × Int32 × Int32 × MS) ⊕ ((Nat × Int32 × Int32 × Int32 × MS) ⊕ (Int32 × MS)))} (hf : f_X12_ghosts_160 l0 l1 l2 l3 l4 l5 μ = some z) (hk : (Sum.elim (fun s : Nat × Int32 × Int32 × Int32 × Int32 × MS => WW X D cy b r μ' 8 0 0 40 [(0, .ref (b + s.1)), (1, .int s.2.1), (2, .int s.2.2.1), (3, .int s.2.2.2.1), (4, .int s.2.2.2.2.1)] [] s.2.2.2.2.2) (Sum.elim (fun s : Nat × Int32 × Int32 × Int32 × MS => WW X D cy b r μ' 8 0 0 26 [(0, .ref (b + s.1)), (1, .int s.2.1), (2, .int s.2.2.1), (3, .int s.2.2.2.1)] [] s.2.2.2.2) (fun z : Int32 × MS => r = some (.int z.1) ∧ μ' = z.2))) z) : WW X D cy b r μ' 8 0 0 160 [(0, .ref (b + l0)), (1, .int l1), (2, .int l2), (3, .int l3), (4, .int l4), (5, .int l5)] [] μ := by
  unfold f_X12_ghosts_160 at hf
  refine r_iload_n hB 2 rfl (by decide +kernel : decode cX12_ghosts 160 = .ok (.iload_n 2, 1)) rfl ?_
  refine r_iload hB 5 rfl (by decide +kernel : decode cX12_ghosts 161 = .ok (.iload 5, 2)) ?_
  refine r_if_eq hB (tgt := 170) (by decide +kernel : decode cX12_ghosts 163 = .ok (.ifCond .eq 7, 3)) (by decide) hf (fun _ hf => ?_) (fun _ hf => ?_)
  · refine r_iconst hB (v := 0) (by decide +kernel : decode cX12_ghosts 170 = .ok (.iconst 0, 1)) (by decide +kernel) ?_
    exact WW.sub [0, 1, 3, 4] rfl (t_X12_ghosts_171 hB hf hk)
  · refine r_iconst hB (v := 1) (by decide +kernel : decode cX12_ghosts 166 = .ok (.iconst 1, 1)) (by decide +kernel) ?_
    refine r_goto hB (tgt := 171) (by decide +kernel : decode cX12_ghosts 167 = .ok (.goto 4, 3)) (by decide) ?_
    exact WW.sub [0, 1, 3, 4] rfl (t_X12_ghosts_171 hB hf hk)
set_option maxHeartbeats 4000000 in
set_option maxRecDepth 100000 in
theorem t_X12_ghosts_152 {X : BX} {D : va_G} {cy : Nat → ClassId} {b : Nat} {r : Option Value} {μ' : MS} (hB : BB X D cy b yX12_ghosts cX12_ghosts 8 (some .int) rmX12_ghosts) {l0 : Nat} {l1 : Int32} {l2 : Int32} {l3 : Int32} {l4 : Int32} {l6 : Int32} {s0 : Int32} {μ : MS} {z : ((Nat × Int32 × Int32 × Int32 × Int32 × Int32 × Int32 × MS) ⊕ ((Nat × Int32 × Int32 × Int32 × Int32 × MS) ⊕ ((Nat × Int32 × Int32 × Int32 × MS) ⊕ (Int32 × MS))))} (hf : f_X12_ghosts_152 l0 l1 l2 l3 l4 l6 s0 μ = some z) (hk : (Sum.elim (fun s : Nat × Int32 × Int32 × Int32 × Int32 × Int32 × Int32 × MS => WW X D cy b r μ' 8 0 0 70 [(0, .ref (b + s.1)), (1, .int s.2.1), (2, .int s.2.2.1), (3, .int s.2.2.2.1), (4, .int s.2.2.2.2.1), (5, .int s.2.2.2.2.2.1), (6, .int s.2.2.2.2.2.2.1)] [] s.2.2.2.2.2.2.2) (Sum.elim (fun s : Nat × Int32 × Int32 × Int32 × Int32 × MS => WW X D cy b r μ' 8 0 0 40 [(0, .ref (b + s.1)), (1, .int s.2.1), (2, .int s.2.2.1), (3, .int s.2.2.2.1), (4, .int s.2.2.2.2.1)] [] s.2.2.2.2.2) (Sum.elim (fun s : Nat × Int32 × Int32 × Int32 × MS => WW X D cy b r μ' 8 0 0 26 [(0, .ref (b + s.1)), (1, .int s.2.1), (2, .int s.2.2.1), (3, .int s.2.2.2.1)] [] s.2.2.2.2) (fun z : Int32 × MS => r = some (.int z.1) ∧ μ' = z.2)))) z) : WW X D cy b r μ' 8 0 0 152 [(0, .ref (b + l0)), (1, .int l1), (2, .int l2), (3, .int l3), (4, .int l4), (6, .int l6)] [.int s0] μ := by
  unfold f_X12_ghosts_152 at hf
  refine r_istore hB (by decide +kernel : decode cX12_ghosts 152 = .ok (.istore 5, 2)) (by decide) rfl ?_
  refine ww_lv (lv' := [(5, .int s0), (0, .ref (b + l0)), (1, .int l1), (2, .int l2), (3, .int l3), (4, .int l4), (6, .int l6)]) rfl ?_
  refine r_iincB hB 6 rfl (by decide +kernel : decode cX12_ghosts 154 = .ok (.iinc 6 1, 3)) (w := 1) (by decide +kernel) (by decide) hf (fun v154 hf => ?_)
  refine ww_lv (lv' := [(6, .int v154), (5, .int s0), (0, .ref (b + l0)), (1, .int l1), (2, .int l2), (3, .int l3), (4, .int l4)]) rfl ?_
  refine r_goto hB (tgt := 70) (by decide +kernel : decode cX12_ghosts 157 = .ok (.goto (-87), 3)) (by decide) ?_
  obtain rfl := Option.some.inj hf
  exact WW.sub [2, 3, 4, 5, 6, 1, 0] rfl hk
set_option maxHeartbeats 4000000 in
set_option maxRecDepth 100000 in
theorem t_X12_ghosts_151 {X : BX} {D : va_G} {cy : Nat → ClassId} {b : Nat} {r : Option Value} {μ' : MS} (hB : BB X D cy b yX12_ghosts cX12_ghosts 8 (some .int) rmX12_ghosts) {l0 : Nat} {l1 : Int32} {l2 : Int32} {l3 : Int32} {l4 : Int32} {l6 : Int32} {μ : MS} {z : ((Nat × Int32 × Int32 × Int32 × Int32 × Int32 × Int32 × MS) ⊕ ((Nat × Int32 × Int32 × Int32 × Int32 × MS) ⊕ ((Nat × Int32 × Int32 × Int32 × MS) ⊕ (Int32 × MS))))} (hf : f_X12_ghosts_151 l0 l1 l2 l3 l4 l6 μ = some z) (hk : (Sum.elim (fun s : Nat × Int32 × Int32 × Int32 × Int32 × Int32 × Int32 × MS => WW X D cy b r μ' 8 0 0 70 [(0, .ref (b + s.1)), (1, .int s.2.1), (2, .int s.2.2.1), (3, .int s.2.2.2.1), (4, .int s.2.2.2.2.1), (5, .int s.2.2.2.2.2.1), (6, .int s.2.2.2.2.2.2.1)] [] s.2.2.2.2.2.2.2) (Sum.elim (fun s : Nat × Int32 × Int32 × Int32 × Int32 × MS => WW X D cy b r μ' 8 0 0 40 [(0, .ref (b + s.1)), (1, .int s.2.1), (2, .int s.2.2.1), (3, .int s.2.2.2.1), (4, .int s.2.2.2.2.1)] [] s.2.2.2.2.2) (Sum.elim (fun s : Nat × Int32 × Int32 × Int32 × MS => WW X D cy b r μ' 8 0 0 26 [(0, .ref (b + s.1)), (1, .int s.2.1), (2, .int s.2.2.1), (3, .int s.2.2.2.1)] [] s.2.2.2.2) (fun z : Int32 × MS => r = some (.int z.1) ∧ μ' = z.2)))) z) : WW X D cy b r μ' 8 0 0 151 [(0, .ref (b + l0)), (1, .int l1), (2, .int l2), (3, .int l3), (4, .int l4), (6, .int l6)] [] μ := by
  unfold f_X12_ghosts_151 at hf
  refine r_iconst hB (v := 0) (by decide +kernel : decode cX12_ghosts 151 = .ok (.iconst 0, 1)) (by decide +kernel) ?_
  exact WW.sub [0, 1, 2, 3, 4, 5] rfl (t_X12_ghosts_152 hB hf hk)
set_option maxHeartbeats 4000000 in
set_option maxRecDepth 100000 in
theorem t_X12_ghosts_147 {X : BX} {D : va_G} {cy : Nat → ClassId} {b : Nat} {r : Option Value} {μ' : MS} (hB : BB X D cy b yX12_ghosts cX12_ghosts 8 (some .int) rmX12_ghosts) {l0 : Nat} {l1 : Int32} {l2 : Int32} {l3 : Int32} {l4 : Int32} {l6 : Int32} {μ : MS} {z : ((Nat × Int32 × Int32 × Int32 × Int32 × Int32 × Int32 × MS) ⊕ ((Nat × Int32 × Int32 × Int32 × Int32 × MS) ⊕ ((Nat × Int32 × Int32 × Int32 × MS) ⊕ (Int32 × MS))))} (hf : f_X12_ghosts_147 l0 l1 l2 l3 l4 l6 μ = some z) (hk : (Sum.elim (fun s : Nat × Int32 × Int32 × Int32 × Int32 × Int32 × Int32 × MS => WW X D cy b r μ' 8 0 0 70 [(0, .ref (b + s.1)), (1, .int s.2.1), (2, .int s.2.2.1), (3, .int s.2.2.2.1), (4, .int s.2.2.2.2.1), (5, .int s.2.2.2.2.2.1), (6, .int s.2.2.2.2.2.2.1)] [] s.2.2.2.2.2.2.2) (Sum.elim (fun s : Nat × Int32 × Int32 × Int32 × Int32 × MS => WW X D cy b r μ' 8 0 0 40 [(0, .ref (b + s.1)), (1, .int s.2.1), (2, .int s.2.2.1), (3, .int s.2.2.2.1), (4, .int s.2.2.2.2.1)] [] s.2.2.2.2.2) (Sum.elim (fun s : Nat × Int32 × Int32 × Int32 × MS => WW X D cy b r μ' 8 0 0 26 [(0, .ref (b + s.1)), (1, .int s.2.1), (2, .int s.2.2.1), (3, .int s.2.2.2.1)] [] s.2.2.2.2) (fun z : Int32 × MS => r = some (.int z.1) ∧ μ' = z.2)))) z) : WW X D cy b r μ' 8 0 0 147 [(0, .ref (b + l0)), (1, .int l1), (2, .int l2), (3, .int l3), (4, .int l4), (6, .int l6)] [] μ := by
  unfold f_X12_ghosts_147 at hf
  refine r_iconst hB (v := 1) (by decide +kernel : decode cX12_ghosts 147 = .ok (.iconst 1, 1)) (by decide +kernel) ?_
  refine r_goto hB (tgt := 152) (by decide +kernel : decode cX12_ghosts 148 = .ok (.goto 4, 3)) (by decide) ?_
  exact WW.sub [0, 1, 2, 3, 4, 5] rfl (t_X12_ghosts_152 hB hf hk)
set_option maxHeartbeats 4000000 in
set_option maxRecDepth 100000 in
theorem t_X12_ghosts_120 {X : BX} {D : va_G} {cy : Nat → ClassId} {b : Nat} {r : Option Value} {μ' : MS} (hB : BB X D cy b yX12_ghosts cX12_ghosts 8 (some .int) rmX12_ghosts) {l0 : Nat} {l1 : Int32} {l2 : Int32} {l3 : Int32} {l4 : Int32} {l5 : Int32} {l6 : Int32} {s0 : Int32} {μ : MS} {z : ((Nat × Int32 × Int32 × Int32 × Int32 × Int32 × Int32 × MS) ⊕ ((Nat × Int32 × Int32 × Int32 × Int32 × MS) ⊕ ((Nat × Int32 × Int32 × Int32 × MS) ⊕ (Int32 × MS))))} (hf : f_X12_ghosts_120 l0 l1 l2 l3 l4 l5 l6 s0 μ = some z) (hk : (Sum.elim (fun s : Nat × Int32 × Int32 × Int32 × Int32 × Int32 × Int32 × MS => WW X D cy b r μ' 8 0 0 70 [(0, .ref (b + s.1)), (1, .int s.2.1), (2, .int s.2.2.1), (3, .int s.2.2.2.1), (4, .int s.2.2.2.2.1), (5, .int s.2.2.2.2.2.1), (6, .int s.2.2.2.2.2.2.1)] [] s.2.2.2.2.2.2.2) (Sum.elim (fun s : Nat × Int32 × Int32 × Int32 × Int32 × MS => WW X D cy b r μ' 8 0 0 40 [(0, .ref (b + s.1)), (1, .int s.2.1), (2, .int s.2.2.1), (3, .int s.2.2.2.1), (4, .int s.2.2.2.2.1)] [] s.2.2.2.2.2) (Sum.elim (fun s : Nat × Int32 × Int32 × Int32 × MS => WW X D cy b r μ' 8 0 0 26 [(0, .ref (b + s.1)), (1, .int s.2.1), (2, .int s.2.2.1), (3, .int s.2.2.2.1)] [] s.2.2.2.2) (fun z : Int32 × MS => r = some (.int z.1) ∧ μ' = z.2)))) z) : WW X D cy b r μ' 8 0 0 120 [(0, .ref (b + l0)), (1, .int l1), (2, .int l2), (3, .int l3), (4, .int l4), (5, .int l5), (6, .int l6)] [.int s0] μ := by
  unfold f_X12_ghosts_120 at hf
  refine r_istore hB (by decide +kernel : decode cX12_ghosts 120 = .ok (.istore 7, 2)) (by decide) rfl ?_
  refine ww_lv (lv' := [(7, .int s0), (0, .ref (b + l0)), (1, .int l1), (2, .int l2), (3, .int l3), (4, .int l4), (5, .int l5), (6, .int l6)]) rfl ?_
  refine r_iload hB 6 rfl (by decide +kernel : decode cX12_ghosts 122 = .ok (.iload 5, 2)) ?_
  refine r_if_ne hB (tgt := 147) (by decide +kernel : decode cX12_ghosts 124 = .ok (.ifCond .ne 23, 3)) (by decide) hf (fun _ hf => ?_) (fun _ hf => ?_)
  · refine r_iload hB 0 rfl (by decide +kernel : decode cX12_ghosts 127 = .ok (.iload 7, 2)) ?_
    refine r_bipush hB (v := (-9)) (by decide +kernel : decode cX12_ghosts 129 = .ok (.bipush (-9), 2)) (by decide +kernel) ?_
    refine r_icmp_eq hB (tgt := 151) (by decide +kernel : decode cX12_ghosts 131 = .ok (.if_icmp .eq 20, 3)) (by decide) hf (fun _ hf => ?_) (fun _ hf => ?_)
    · exact WW.sub [1, 2, 3, 4, 5, 7] rfl (t_X12_ghosts_151 hB hf hk)
    · refine r_iload hB 0 rfl (by decide +kernel : decode cX12_ghosts 134 = .ok (.iload 7, 2)) ?_
      refine r_iload_n hB 4 rfl (by decide +kernel : decode cX12_ghosts 136 = .ok (.iload_n 3, 1)) rfl ?_
      refine r_icmp_eq hB (tgt := 151) (by decide +kernel : decode cX12_ghosts 137 = .ok (.if_icmp .eq 14, 3)) (by decide) hf (fun _ hf => ?_) (fun _ hf => ?_)
      · exact WW.sub [1, 2, 3, 4, 5, 7] rfl (t_X12_ghosts_151 hB hf hk)
      · refine r_iload hB 0 rfl (by decide +kernel : decode cX12_ghosts 140 = .ok (.iload 7, 2)) ?_
        refine r_iload hB 5 rfl (by decide +kernel : decode cX12_ghosts 142 = .ok (.iload 4, 2)) ?_
        refine r_icmp_eq hB (tgt := 151) (by decide +kernel : decode cX12_ghosts 144 = .ok (.if_icmp .eq 7, 3)) (by decide) hf (fun _ hf => ?_) (fun _ hf => ?_)
        · exact WW.sub [1, 2, 3, 4, 5, 7] rfl (t_X12_ghosts_151 hB hf hk)
        · exact WW.sub [1, 2, 3, 4, 5, 7] rfl (t_X12_ghosts_147 hB hf hk)
  · exact WW.sub [1, 2, 3, 4, 5, 7] rfl (t_X12_ghosts_147 hB hf hk)
set_option maxHeartbeats 4000000 in
set_option maxRecDepth 100000 in
theorem t_X12_ghosts_118 {X : BX} {D : va_G} {cy : Nat → ClassId} {b : Nat} {r : Option Value} {μ' : MS} (hB : BB X D cy b yX12_ghosts cX12_ghosts 8 (some .int) rmX12_ghosts) {l0 : Nat} {l1 : Int32} {l2 : Int32} {l3 : Int32} {l4 : Int32} {l5 : Int32} {l6 : Int32} {μ : MS} {z : ((Nat × Int32 × Int32 × Int32 × Int32 × Int32 × Int32 × MS) ⊕ ((Nat × Int32 × Int32 × Int32 × Int32 × MS) ⊕ ((Nat × Int32 × Int32 × Int32 × MS) ⊕ (Int32 × MS))))} (hf : f_X12_ghosts_118 l0 l1 l2 l3 l4 l5 l6 μ = some z) (hk : (Sum.elim (fun s : Nat × Int32 × Int32 × Int32 × Int32 × Int32 × Int32 × MS => WW X D cy b r μ' 8 0 0 70 [(0, .ref (b + s.1)), (1, .int s.2.1), (2, .int s.2.2.1), (3, .int s.2.2.2.1), (4, .int s.2.2.2.2.1), (5, .int s.2.2.2.2.2.1), (6, .int s.2.2.2.2.2.2.1)] [] s.2.2.2.2.2.2.2) (Sum.elim (fun s : Nat × Int32 × Int32 × Int32 × Int32 × MS => WW X D cy b r μ' 8 0 0 40 [(0, .ref (b + s.1)), (1, .int s.2.1), (2, .int s.2.2.1), (3, .int s.2.2.2.1), (4, .int s.2.2.2.2.1)] [] s.2.2.2.2.2) (Sum.elim (fun s : Nat × Int32 × Int32 × Int32 × MS => WW X D cy b r μ' 8 0 0 26 [(0, .ref (b + s.1)), (1, .int s.2.1), (2, .int s.2.2.1), (3, .int s.2.2.2.1)] [] s.2.2.2.2) (fun z : Int32 × MS => r = some (.int z.1) ∧ μ' = z.2)))) z) : WW X D cy b r μ' 8 0 0 118 [(0, .ref (b + l0)), (1, .int l1), (2, .int l2), (3, .int l3), (4, .int l4), (5, .int l5), (6, .int l6)] [] μ := by
  unfold f_X12_ghosts_118 at hf
  refine r_bipush hB (v := (-9)) (by decide +kernel : decode cX12_ghosts 118 = .ok (.bipush (-9), 2)) (by decide +kernel) ?_
  exact WW.sub [0, 1, 2, 3, 4, 5, 6] rfl (t_X12_ghosts_120 hB hf hk)
set_option maxHeartbeats 4000000 in
set_option maxRecDepth 100000 in
theorem t_X12_ghosts_70_b {X : BX} {D : va_G} {cy : Nat → ClassId} {b : Nat} {r : Option Value} {μ' : MS} (hB : BB X D cy b yX12_ghosts cX12_ghosts 8 (some .int) rmX12_ghosts) {l0 : Nat} {l1 : Int32} {l2 : Int32} {l3 : Int32} {l4 : Int32} {l5 : Int32} {l6 : Int32} {μ : MS} {z : ((Nat × Int32 × Int32 × Int32 × Int32 × Int32 × Int32 × MS) ⊕ ((Nat × Int32 × Int32 × Int32 × Int32 × MS) ⊕ ((Nat × Int32 × Int32 × Int32 × MS) ⊕ (Int32 × MS))))} (hf : f_X12_ghosts_70_b l0 l1 l2 l3 l4 l5 l6 μ = some z) (hk : (Sum.elim (fun s : Nat × Int32 × Int32 × Int32 × Int32 × Int32 × Int32 × MS => WW X D cy b r μ' 8 0 0 70 [(0, .ref (b + s.1)), (1, .int s.2.1), (2, .int s.2.2.1), (3, .int s.2.2.2.1), (4, .int s.2.2.2.2.1), (5, .int s.2.2.2.2.2.1), (6, .int s.2.2.2.2.2.2.1)] [] s.2.2.2.2.2.2.2) (Sum.elim (fun s : Nat × Int32 × Int32 × Int32 × Int32 × MS => WW X D cy b r μ' 8 0 0 40 [(0, .ref (b + s.1)), (1, .int s.2.1), (2, .int s.2.2.1), (3, .int s.2.2.2.1), (4, .int s.2.2.2.2.1)] [] s.2.2.2.2.2) (Sum.elim (fun s : Nat × Int32 × Int32 × Int32 × MS => WW X D cy b r μ' 8 0 0 26 [(0, .ref (b + s.1)), (1, .int s.2.1), (2, .int s.2.2.1), (3, .int s.2.2.2.1)] [] s.2.2.2.2) (fun z : Int32 × MS => r = some (.int z.1) ∧ μ' = z.2)))) z) : WW X D cy b r μ' 8 0 0 70 [(0, .ref (b + l0)), (1, .int l1), (2, .int l2), (3, .int l3), (4, .int l4), (5, .int l5), (6, .int l6)] [] μ := by
  unfold f_X12_ghosts_70_b at hf
  refine r_iload hB 6 rfl (by decide +kernel : decode cX12_ghosts 70 = .ok (.iload 6, 2)) ?_
  refine r_aload_n hB 0 rfl (by decide +kernel : decode cX12_ghosts 72 = .ok (.aload_n 0, 1)) rfl ?_
  refine r_gI hB cf12 21 (by decide) (own := "PulseRemoteModel") rfl (Or.inl k_1136) (by decide +kernel) (by decide +kernel : decode cX12_ghosts 73 = .ok (.getfield 224, 3)) hf (fun x73 hf => ?_)
  refine r_icmp_ge hB (tgt := 160) (by decide +kernel : decode cX12_ghosts 76 = .ok (.if_icmp .ge 84, 3)) (by decide) hf (fun _ hf => ?_) (fun _ hf => ?_)
  · obtain ⟨_, hx0, rfl⟩ := xr_inv hf
    exact WW.sub [0, 1, 2, 3, 4, 5] rfl (t_X12_ghosts_160 hB hx0 hk)
  · refine r_aload_n hB 0 rfl (by decide +kernel : decode cX12_ghosts 79 = .ok (.aload_n 0, 1)) rfl ?_
    refine r_iload hB 6 rfl (by decide +kernel : decode cX12_ghosts 80 = .ok (.iload 6, 2)) ?_
    refine r_cVi hB [.int l6] [] cf12 (own := "PulseRemoteModel") rfl cmX12_decodes imX12_decodes (Or.inl k_1452) (by decide) rfl rfl rfl (Nat.le_of_ble_eq_true rfl) (by decide +kernel : decode cX12_ghosts 82 = .ok (.invokevirtual 280, 3)) (fun z hz => m_X12_decodes _ _ _ _ hz) rfl hf (fun z82 hf => ?_)
    refine r_if_eq hB (tgt := 118) (by decide +kernel : decode cX12_ghosts 85 = .ok (.ifCond .eq 33, 3)) (by decide) hf (fun _ hf => ?_) (fun _ hf => ?_)
    · exact WW.sub [0, 1, 2, 3, 4, 5, 6] rfl (t_X12_ghosts_118 hB hf hk)
    · refine r_aload_n hB 0 rfl (by decide +kernel : decode cX12_ghosts 88 = .ok (.aload_n 0, 1)) rfl ?_
      refine r_gI hB cf12 28 (by decide) (own := "PulseRemoteModel") rfl (Or.inl k_1143) (by decide +kernel) (by decide +kernel : decode cX12_ghosts 89 = .ok (.getfield 259, 3)) hf (fun x89 hf => ?_)
      refine r_if_ne hB (tgt := 118) (by decide +kernel : decode cX12_ghosts 92 = .ok (.ifCond .ne 26, 3)) (by decide) hf (fun _ hf => ?_) (fun _ hf => ?_)
      · refine r_aload_n hB 0 rfl (by decide +kernel : decode cX12_ghosts 95 = .ok (.aload_n 0, 1)) rfl ?_
        refine r_aload_n hB 0 rfl (by decide +kernel : decode cX12_ghosts 96 = .ok (.aload_n 0, 1)) rfl ?_
        refine r_gI hB cf12 26 (by decide) (own := "PulseRemoteModel") rfl (Or.inl k_1141) (by decide +kernel) (by decide +kernel : decode cX12_ghosts 97 = .ok (.getfield 265, 3)) hf (fun x97 hf => ?_)
        refine r_aload_n hB 0 rfl (by decide +kernel : decode cX12_ghosts 100 = .ok (.aload_n 0, 1)) rfl ?_
        refine r_aload_n hB 0 rfl (by decide +kernel : decode cX12_ghosts 101 = .ok (.aload_n 0, 1)) rfl ?_
        refine r_gI hB cf12 26 (by decide) (own := "PulseRemoteModel") rfl (Or.inl k_1141) (by decide +kernel) (by decide +kernel : decode cX12_ghosts 102 = .ok (.getfield 265, 3)) hf (fun x102 hf => ?_)
        refine r_aload_n hB 0 rfl (by decide +kernel : decode cX12_ghosts 105 = .ok (.aload_n 0, 1)) rfl ?_
        refine r_gI hB cf12 27 (by decide) (own := "PulseRemoteModel") rfl (Or.inl k_1142) (by decide +kernel) (by decide +kernel : decode cX12_ghosts 106 = .ok (.getfield 268, 3)) hf (fun x106 hf => ?_)
        refine r_cVi hB [.int x102, .int x106] [.int x97, .ref (b + l0)] cf12 (own := "PulseRemoteModel") rfl cmX12_identity imX12_identity (Or.inl k_1281) (by decide) rfl rfl rfl (Nat.le_of_ble_eq_true rfl) (by decide +kernel : decode cX12_ghosts 109 = .ok (.invokevirtual 105, 3)) (fun z hz => m_X12_identity _ _ _ _ hz) rfl hf (fun z109 hf => ?_)
        refine r_cVi hB [.int x97, .int z109.1] [] cf12 (own := "PulseRemoteModel") rfl cmX12_buttonOf imX12_buttonOf (Or.inl k_1285) (by decide) rfl rfl rfl (Nat.le_of_ble_eq_true rfl) (by decide +kernel : decode cX12_ghosts 112 = .ok (.invokevirtual 109, 3)) (fun z hz => m_X12_buttonOf _ _ _ _ hz) rfl hf (fun z112 hf => ?_)
        refine r_goto hB (tgt := 120) (by decide +kernel : decode cX12_ghosts 115 = .ok (.goto 5, 3)) (by decide) ?_
        exact WW.sub [0, 1, 2, 3, 4, 5, 6] rfl (t_X12_ghosts_120 hB hf hk)
      · exact WW.sub [0, 1, 2, 3, 4, 5, 6] rfl (t_X12_ghosts_118 hB hf hk)
set_option maxHeartbeats 4000000 in
set_option maxRecDepth 100000 in
theorem t_X12_ghosts_70 {X : BX} {D : va_G} {cy : Nat → ClassId} {b : Nat} {r : Option Value} {μ' : MS} (hB : BB X D cy b yX12_ghosts cX12_ghosts 8 (some .int) rmX12_ghosts) {l0 : Nat} {l1 : Int32} {l2 : Int32} {l3 : Int32} {l4 : Int32} {l5 : Int32} {l6 : Int32} {μ : MS} {z : ((Nat × Int32 × Int32 × Int32 × Int32 × MS) ⊕ ((Nat × Int32 × Int32 × Int32 × MS) ⊕ (Int32 × MS)))} (hf : f_X12_ghosts_70 l0 l1 l2 l3 l4 l5 l6 μ = some z) (hk : (Sum.elim (fun s : Nat × Int32 × Int32 × Int32 × Int32 × MS => WW X D cy b r μ' 8 0 0 40 [(0, .ref (b + s.1)), (1, .int s.2.1), (2, .int s.2.2.1), (3, .int s.2.2.2.1), (4, .int s.2.2.2.2.1)] [] s.2.2.2.2.2) (Sum.elim (fun s : Nat × Int32 × Int32 × Int32 × MS => WW X D cy b r μ' 8 0 0 26 [(0, .ref (b + s.1)), (1, .int s.2.1), (2, .int s.2.2.1), (3, .int s.2.2.2.1)] [] s.2.2.2.2) (fun z : Int32 × MS => r = some (.int z.1) ∧ μ' = z.2))) z) : WW X D cy b r μ' 8 0 0 70 [(0, .ref (b + l0)), (1, .int l1), (2, .int l2), (3, .int l3), (4, .int l4), (5, .int l5), (6, .int l6)] [] μ :=
  lp_ind (P := fun s : Nat × Int32 × Int32 × Int32 × Int32 × Int32 × Int32 × MS => WW X D cy b r μ' 8 0 0 70 [(0, .ref (b + s.1)), (1, .int s.2.1), (2, .int s.2.2.1), (3, .int s.2.2.2.1), (4, .int s.2.2.2.2.1), (5, .int s.2.2.2.2.2.1), (6, .int s.2.2.2.2.2.2.1)] [] s.2.2.2.2.2.2.2) (Q := (Sum.elim (fun s : Nat × Int32 × Int32 × Int32 × Int32 × MS => WW X D cy b r μ' 8 0 0 40 [(0, .ref (b + s.1)), (1, .int s.2.1), (2, .int s.2.2.1), (3, .int s.2.2.2.1), (4, .int s.2.2.2.2.1)] [] s.2.2.2.2.2) (Sum.elim (fun s : Nat × Int32 × Int32 × Int32 × MS => WW X D cy b r μ' 8 0 0 26 [(0, .ref (b + s.1)), (1, .int s.2.1), (2, .int s.2.2.1), (3, .int s.2.2.2.1)] [] s.2.2.2.2) (fun z : Int32 × MS => r = some (.int z.1) ∧ μ' = z.2)))) (fun s z hz hk => t_X12_ghosts_70_b hB hz hk) (l0, l1, l2, l3, l4, l5, l6, μ) z hf hk
set_option maxHeartbeats 4000000 in
set_option maxRecDepth 100000 in
theorem t_X12_ghosts_40_b {X : BX} {D : va_G} {cy : Nat → ClassId} {b : Nat} {r : Option Value} {μ' : MS} (hB : BB X D cy b yX12_ghosts cX12_ghosts 8 (some .int) rmX12_ghosts) {l0 : Nat} {l1 : Int32} {l2 : Int32} {l3 : Int32} {l4 : Int32} {μ : MS} {z : ((Nat × Int32 × Int32 × Int32 × Int32 × MS) ⊕ ((Nat × Int32 × Int32 × Int32 × MS) ⊕ (Int32 × MS)))} (hf : f_X12_ghosts_40_b l0 l1 l2 l3 l4 μ = some z) (hk : (Sum.elim (fun s : Nat × Int32 × Int32 × Int32 × Int32 × MS => WW X D cy b r μ' 8 0 0 40 [(0, .ref (b + s.1)), (1, .int s.2.1), (2, .int s.2.2.1), (3, .int s.2.2.2.1), (4, .int s.2.2.2.2.1)] [] s.2.2.2.2.2) (Sum.elim (fun s : Nat × Int32 × Int32 × Int32 × MS => WW X D cy b r μ' 8 0 0 26 [(0, .ref (b + s.1)), (1, .int s.2.1), (2, .int s.2.2.1), (3, .int s.2.2.2.1)] [] s.2.2.2.2) (fun z : Int32 × MS => r = some (.int z.1) ∧ μ' = z.2))) z) : WW X D cy b r μ' 8 0 0 40 [(0, .ref (b + l0)), (1, .int l1), (2, .int l2), (3, .int l3), (4, .int l4)] [] μ := by
  unfold f_X12_ghosts_40_b at hf
  refine r_iload hB 4 rfl (by decide +kernel : decode cX12_ghosts 40 = .ok (.iload 4, 2)) ?_
  refine r_aload_n hB 0 rfl (by decide +kernel : decode cX12_ghosts 42 = .ok (.aload_n 0, 1)) rfl ?_
  refine r_gR hB cf12 0 (by decide) (own := "PulseRemoteModel") rfl (Or.inl k_1115) (by decide +kernel) (by decide +kernel : decode cX12_ghosts 43 = .ok (.getfield 7, 3)) hf (fun x43 hf => ?_)
  refine r_bipush hB (v := 58) (by decide +kernel : decode cX12_ghosts 46 = .ok (.bipush 58, 2)) (by decide +kernel) ?_
  refine r_iald hB (by decide +kernel : decode cX12_ghosts 48 = .ok (.iaload, 1)) hf (fun x48 hf => ?_)
  refine r_icmp_ge hB (tgt := 179) (by decide +kernel : decode cX12_ghosts 49 = .ok (.if_icmp .ge 130, 3)) (by decide) hf (fun _ hf => ?_) (fun _ hf => ?_)
  · obtain ⟨_, hx0, rfl⟩ := xr_inv hf
    exact WW.sub [0, 1, 2, 3] rfl (t_X12_ghosts_179 hB hx0 hk)
  · refine r_aload_n hB 0 rfl (by decide +kernel : decode cX12_ghosts 52 = .ok (.aload_n 0, 1)) rfl ?_
    refine r_iload_n hB 3 rfl (by decide +kernel : decode cX12_ghosts 53 = .ok (.iload_n 3, 1)) rfl ?_
    refine r_iload hB 4 rfl (by decide +kernel : decode cX12_ghosts 54 = .ok (.iload 4, 2)) ?_
    refine r_iload_n hB 1 rfl (by decide +kernel : decode cX12_ghosts 56 = .ok (.iload_n 1, 1)) rfl ?_
    refine r_cVv hB [.int l3, .int l4, .int l1] [] cf12 (own := "PulseRemoteModel") rfl cmX12_collides imX12_collides (Or.inl k_1541) (by decide) rfl rfl rfl (Nat.le_of_ble_eq_true rfl) (by decide +kernel : decode cX12_ghosts 57 = .ok (.invokevirtual 306, 3)) (fun z hz => m_X12_collides _ _ _ _ hz) rfl hf (fun z57 hf => ?_)
    refine r_aload_n hB 0 rfl (by decide +kernel : decode cX12_ghosts 60 = .ok (.aload_n 0, 1)) rfl ?_
    refine r_cVv hB [] [] cf12 (own := "PulseRemoteModel") rfl cmX12_findsFrames imX12_findsFrames (Or.inl k_1444) (by decide) rfl rfl rfl (Nat.le_of_ble_eq_true rfl) (by decide +kernel : decode cX12_ghosts 61 = .ok (.invokevirtual 274, 3)) (fun z hz => m_X12_findsFrames _ _ _ _ hz) rfl hf (fun z61 hf => ?_)
    refine r_iconst hB (v := 0) (by decide +kernel : decode cX12_ghosts 64 = .ok (.iconst 0, 1)) (by decide +kernel) ?_
    refine r_istore hB (by decide +kernel : decode cX12_ghosts 65 = .ok (.istore 5, 2)) (by decide) rfl ?_
    refine ww_lv (lv' := [(5, .int 0), (0, .ref (b + l0)), (1, .int l1), (2, .int l2), (3, .int l3), (4, .int l4)]) rfl ?_
    refine r_iconst hB (v := 0) (by decide +kernel : decode cX12_ghosts 67 = .ok (.iconst 0, 1)) (by decide +kernel) ?_
    refine r_istore hB (by decide +kernel : decode cX12_ghosts 68 = .ok (.istore 6, 2)) (by decide) rfl ?_
    refine ww_lv (lv' := [(6, .int 0), (5, .int 0), (0, .ref (b + l0)), (1, .int l1), (2, .int l2), (3, .int l3), (4, .int l4)]) rfl ?_
    exact WW.sub [2, 3, 4, 5, 6, 1, 0] rfl (t_X12_ghosts_70 hB hf hk)
set_option maxHeartbeats 4000000 in
set_option maxRecDepth 100000 in
theorem t_X12_ghosts_40 {X : BX} {D : va_G} {cy : Nat → ClassId} {b : Nat} {r : Option Value} {μ' : MS} (hB : BB X D cy b yX12_ghosts cX12_ghosts 8 (some .int) rmX12_ghosts) {l0 : Nat} {l1 : Int32} {l2 : Int32} {l3 : Int32} {l4 : Int32} {μ : MS} {z : ((Nat × Int32 × Int32 × Int32 × MS) ⊕ (Int32 × MS))} (hf : f_X12_ghosts_40 l0 l1 l2 l3 l4 μ = some z) (hk : (Sum.elim (fun s : Nat × Int32 × Int32 × Int32 × MS => WW X D cy b r μ' 8 0 0 26 [(0, .ref (b + s.1)), (1, .int s.2.1), (2, .int s.2.2.1), (3, .int s.2.2.2.1)] [] s.2.2.2.2) (fun z : Int32 × MS => r = some (.int z.1) ∧ μ' = z.2)) z) : WW X D cy b r μ' 8 0 0 40 [(0, .ref (b + l0)), (1, .int l1), (2, .int l2), (3, .int l3), (4, .int l4)] [] μ :=
  lp_ind (P := fun s : Nat × Int32 × Int32 × Int32 × Int32 × MS => WW X D cy b r μ' 8 0 0 40 [(0, .ref (b + s.1)), (1, .int s.2.1), (2, .int s.2.2.1), (3, .int s.2.2.2.1), (4, .int s.2.2.2.2.1)] [] s.2.2.2.2.2) (Q := (Sum.elim (fun s : Nat × Int32 × Int32 × Int32 × MS => WW X D cy b r μ' 8 0 0 26 [(0, .ref (b + s.1)), (1, .int s.2.1), (2, .int s.2.2.1), (3, .int s.2.2.2.1)] [] s.2.2.2.2) (fun z : Int32 × MS => r = some (.int z.1) ∧ μ' = z.2))) (fun s z hz hk => t_X12_ghosts_40_b hB hz hk) (l0, l1, l2, l3, l4, μ) z hf hk
set_option maxHeartbeats 4000000 in
set_option maxRecDepth 100000 in
theorem t_X12_ghosts_26_b {X : BX} {D : va_G} {cy : Nat → ClassId} {b : Nat} {r : Option Value} {μ' : MS} (hB : BB X D cy b yX12_ghosts cX12_ghosts 8 (some .int) rmX12_ghosts) {l0 : Nat} {l1 : Int32} {l2 : Int32} {l3 : Int32} {μ : MS} {z : ((Nat × Int32 × Int32 × Int32 × MS) ⊕ (Int32 × MS))} (hf : f_X12_ghosts_26_b l0 l1 l2 l3 μ = some z) (hk : (Sum.elim (fun s : Nat × Int32 × Int32 × Int32 × MS => WW X D cy b r μ' 8 0 0 26 [(0, .ref (b + s.1)), (1, .int s.2.1), (2, .int s.2.2.1), (3, .int s.2.2.2.1)] [] s.2.2.2.2) (fun z : Int32 × MS => r = some (.int z.1) ∧ μ' = z.2)) z) : WW X D cy b r μ' 8 0 0 26 [(0, .ref (b + l0)), (1, .int l1), (2, .int l2), (3, .int l3)] [] μ := by
  unfold f_X12_ghosts_26_b at hf
  refine r_iload_n hB 3 rfl (by decide +kernel : decode cX12_ghosts 26 = .ok (.iload_n 3, 1)) rfl ?_
  refine r_aload_n hB 0 rfl (by decide +kernel : decode cX12_ghosts 27 = .ok (.aload_n 0, 1)) rfl ?_
  refine r_gR hB cf12 0 (by decide) (own := "PulseRemoteModel") rfl (Or.inl k_1115) (by decide +kernel) (by decide +kernel : decode cX12_ghosts 28 = .ok (.getfield 7, 3)) hf (fun x28 hf => ?_)
  refine r_bipush hB (v := 58) (by decide +kernel : decode cX12_ghosts 31 = .ok (.bipush 58, 2)) (by decide +kernel) ?_
  refine r_iald hB (by decide +kernel : decode cX12_ghosts 33 = .ok (.iaload, 1)) hf (fun x33 hf => ?_)
  refine r_icmp_ge hB (tgt := 185) (by decide +kernel : decode cX12_ghosts 34 = .ok (.if_icmp .ge 151, 3)) (by decide) hf (fun _ hf => ?_) (fun _ hf => ?_)
  · obtain ⟨_, hx0, rfl⟩ := xr_inv hf
    exact WW.sub [2] rfl (t_X12_ghosts_185 hB hx0 hk)
  · refine r_iload_n hB 3 rfl (by decide +kernel : decode cX12_ghosts 37 = .ok (.iload_n 3, 1)) rfl ?_
    refine r_istore hB (by decide +kernel : decode cX12_ghosts 38 = .ok (.istore 4, 2)) (by decide) rfl ?_
    refine ww_lv (lv' := [(4, .int l3), (0, .ref (b + l0)), (1, .int l1), (2, .int l2), (3, .int l3)]) rfl ?_
    exact WW.sub [1, 2, 3, 4, 0] rfl (t_X12_ghosts_40 hB hf hk)
set_option maxHeartbeats 4000000 in
set_option maxRecDepth 100000 in
theorem t_X12_ghosts_26 {X : BX} {D : va_G} {cy : Nat → ClassId} {b : Nat} {r : Option Value} {μ' : MS} (hB : BB X D cy b yX12_ghosts cX12_ghosts 8 (some .int) rmX12_ghosts) {l0 : Nat} {l1 : Int32} {l2 : Int32} {l3 : Int32} {μ : MS} {z : (Int32 × MS)} (hf : f_X12_ghosts_26 l0 l1 l2 l3 μ = some z) (hk : (fun z : Int32 × MS => r = some (.int z.1) ∧ μ' = z.2) z) : WW X D cy b r μ' 8 0 0 26 [(0, .ref (b + l0)), (1, .int l1), (2, .int l2), (3, .int l3)] [] μ :=
  lp_ind (P := fun s : Nat × Int32 × Int32 × Int32 × MS => WW X D cy b r μ' 8 0 0 26 [(0, .ref (b + s.1)), (1, .int s.2.1), (2, .int s.2.2.1), (3, .int s.2.2.2.1)] [] s.2.2.2.2) (Q := (fun z : Int32 × MS => r = some (.int z.1) ∧ μ' = z.2)) (fun s z hz hk => t_X12_ghosts_26_b hB hz hk) (l0, l1, l2, l3, μ) z hf hk
set_option maxHeartbeats 4000000 in
set_option maxRecDepth 100000 in
theorem t_X12_ghosts_0 {X : BX} {D : va_G} {cy : Nat → ClassId} {b : Nat} {r : Option Value} {μ' : MS} (hB : BB X D cy b yX12_ghosts cX12_ghosts 8 (some .int) rmX12_ghosts) {l0 : Nat} {l1 : Int32} {μ : MS} {z : (Int32 × MS)} (hf : f_X12_ghosts l0 l1 μ = some z) (hk : (fun z : Int32 × MS => r = some (.int z.1) ∧ μ' = z.2) z) : WW X D cy b r μ' 8 0 0 0 [(0, .ref (b + l0)), (1, .int l1)] [] μ := by
  unfold f_X12_ghosts at hf
  refine r_iload_n hB 1 rfl (by decide +kernel : decode cX12_ghosts 0 = .ok (.iload_n 1, 1)) rfl ?_
  refine r_iconst hB (v := 0) (by decide +kernel : decode cX12_ghosts 1 = .ok (.iconst 0, 1)) (by decide +kernel) ?_
  refine r_ldc hB (v := 60000) (own := "PulseRemoteModel") rfl k_1301 (by decide +kernel : decode cX12_ghosts 2 = .ok (.ldc 116, 2)) ?_
  refine r_cSi hB [.int l1, .int 0, .int 60000] [] (own := "PulseRemoteModel") rfl cmX12_in smX12_in (Or.inl ⟨rfl, k_1233⟩) (by decide) rfl rfl rfl (Nat.le_of_ble_eq_true rfl) (by decide +kernel : decode cX12_ghosts 4 = .ok (.invokestatic 68, 3)) (fun z hz => m_X12_in _ _ _ _ hz) rfl hf (fun z4 hf => ?_)
  refine r_if_ne hB (tgt := 12) (by decide +kernel : decode cX12_ghosts 7 = .ok (.ifCond .ne 5, 3)) (by decide) hf (fun _ hf => ?_) (fun _ hf => ?_)
  · refine r_iconst hB (v := (-1)) (by decide +kernel : decode cX12_ghosts 10 = .ok (.iconst (-1), 1)) (by decide +kernel) ?_
    obtain rfl := Option.some.inj hf
    obtain ⟨rfl, rfl⟩ := hk
    exact r_iret hB (by decide +kernel : decode cX12_ghosts 11 = .ok (.ireturn, 1))
  · refine r_aload_n hB 0 rfl (by decide +kernel : decode cX12_ghosts 12 = .ok (.aload_n 0, 1)) rfl ?_
    refine r_aload_n hB 0 rfl (by decide +kernel : decode cX12_ghosts 13 = .ok (.aload_n 0, 1)) rfl ?_
    refine r_gR hB cf12 0 (by decide) (own := "PulseRemoteModel") rfl (Or.inl k_1115) (by decide +kernel) (by decide +kernel : decode cX12_ghosts 14 = .ok (.getfield 7, 3)) hf (fun x14 hf => ?_)
    refine r_iconst hB (v := 2) (by decide +kernel : decode cX12_ghosts 17 = .ok (.iconst 2, 1)) (by decide +kernel) ?_
    refine r_iald hB (by decide +kernel : decode cX12_ghosts 18 = .ok (.iaload, 1)) hf (fun x18 hf => ?_)
    refine r_pI hB cf12 22 (by decide) (own := "PulseRemoteModel") rfl (Or.inl k_1137) (Or.inl rfl) rfl (by decide +kernel : decode cX12_ghosts 19 = .ok (.putfield 229, 3)) hf (fun m19 hf => ?_)
    refine r_iconst hB (v := 0) (by decide +kernel : decode cX12_ghosts 22 = .ok (.iconst 0, 1)) (by decide +kernel) ?_
    refine r_istore_n hB (by decide +kernel : decode cX12_ghosts 23 = .ok (.istore_n 2, 1)) rfl (by decide) rfl ?_
    refine ww_lv (lv' := [(2, .int 0), (0, .ref (b + l0)), (1, .int l1)]) rfl ?_
    refine r_iconst hB (v := 0) (by decide +kernel : decode cX12_ghosts 24 = .ok (.iconst 0, 1)) (by decide +kernel) ?_
    refine r_istore_n hB (by decide +kernel : decode cX12_ghosts 25 = .ok (.istore_n 3, 1)) rfl (by decide) rfl ?_
    refine ww_lv (lv' := [(3, .int 0), (2, .int 0), (0, .ref (b + l0)), (1, .int l1)]) rfl ?_
    exact WW.sub [2, 3, 1, 0] rfl (t_X12_ghosts_26 hB hf hk)
theorem m_X12_ghosts (l : Launch) (D : va_G) (cy : Nat → ClassId) (b : Nat) {l0 : Nat} {l1 : Int32} {μ : MS} {z : Int32 × MS} (hf : f_X12_ghosts l0 l1 μ = some z) : Met l yX12_ghosts (.code yX12_ghosts cX12_ghosts 8 (some .int) :: GW) rmX12_ghosts (Pw D cy b [.ref (b + l0), .int l1] μ) (Qw D cy b (some (.int z.1)) (z.2)) rmX12_ghosts.cells rmX12_ghosts.slots (fun q => b ≤ q) :=
  met_of (by decide) (Nat.le_of_ble_eq_true rfl) (fun X hB _ => (t_X12_ghosts_0 hB hf ⟨rfl, rfl⟩))
