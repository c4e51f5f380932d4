/-! the table: both make the same -/
section MK
variable {fu P C cap M : Nat} {zb rc zE : Nat → Int64} {zR : Int32} {zA zD : Nat → Int32} {vR vP : Int32} {vF : Int64} {vE : Int32} {vAl vPe : Nat → Int32} {vB vBh : Nat → Int64} {vEn vRo vEx : Nat → Int32}
theorem gper {F : Nat → Int64} {gv : Nat → Int32} (hM : M ≤ 120) (hpm : ∀ j, j < M → f_Union_permissionsOf fu (F j) zR zE zA zD = some (gv j)) {i : Nat} (hi : i < M) : f_Graph_permissionsOf fu (nI i) (nI M) F zR zE zA zD = some (gv i) := by
  unfold f_Graph_permissionsOf
  rw [ifF (nI_pos (by omega)), ifF (nI_ge hi (by omega)), ifT (inB_nI (by omega) (by omega)), nI_clamp (by omega), hpm i hi]
  rfl
theorem pbp {F : Nat → Int64} {gv : Nat → Int32} (hM : M ≤ 120) (hpm : ∀ j, j < M → f_Union_permissionsOf fu (F j) zR zE zA zD = some (gv j)) (kk : Int32 → (Nat → Int32) → Option (Int32 × (Nat → Int32))) : ∀ (d i f : Nat) (ki : Nat → Int32), i + d = M → d < f → (∀ j, j < i → ki j = gv j) → ∃ ki' : Nat → Int32, f_Table_partByPermissions_L7 (nI M) F zR zE zA zD fu kk f (nI i) ki = kk (nI M) ki' ∧ ∀ j, j < M → ki' j = gv j
  | 0, i, f, ki, hd, hf, hk => by
    obtain ⟨f, rfl⟩ : ∃ g, f = g + 1 := ⟨f - 1, by omega⟩
    have : i = M := by omega
    subst this
    rw [f_Table_partByPermissions_L7_s, ifT (nI_le (Nat.le_refl _) (by omega))]
    exact ⟨ki, rfl, hk⟩
  | d + 1, i, f, ki, hd, hf, hk => by
    obtain ⟨f, rfl⟩ : ∃ g, f = g + 1 := ⟨f - 1, by omega⟩
    have e : f_Table_partByPermissions_L7 (nI M) F zR zE zA zD fu kk (f + 1) (nI i) ki = f_Table_partByPermissions_L7 (nI M) F zR zE zA zD fu kk f (nI (i + 1)) (upd ki i (gv i)) := by
      have q : ¬ (120 : Int32) ≤ nI i := nI_ge (b := 120) (by omega) (by decide)
      rw [f_Table_partByPermissions_L7_s, ifF (nI_ge (by omega) (by omega)), ifF q, gper hM hpm (by omega)]
      show (if inB (nI i) 120 = true then f_Table_partByPermissions_L7 (nI M) F zR zE zA zD fu kk f (nI i + 1) (upd ki (nI i).toNatClampNeg (gv i)) else none) = _
      rw [ifT (inB_nI (by omega) (by omega)), nI_clamp (by omega), nI_1]
    rw [e]
    refine pbp hM hpm kk d (i + 1) f _ (by omega) (by omega) (fun j hj => ?_)
    by_cases z : j = i
    · subst z; rw [pk_us]
    · rw [pk_un z]; exact hk j (by omega)
theorem make_ok (hA : AG fu P C zb rc zE zR zA zD vR vP vF vE vAl vPe vB vBh vEn vRo vEx) (hP : P ≤ 60) (hC : C ≤ 95) (hfu : 1000 ≤ fu) (hcap : cap ≤ 120) (hcap1 : 1 ≤ cap) {co : Nat → Nat} (hco : ColsOK co C) {zcol vcl : Nat → Int32} (hzc : ∀ b, b < 256 → zcol (sy b) = nI (co b)) (hvc : ∀ b, b < 256 → vcl b = nI (co b)) (kc0 : Int32) (ko0 fi0 le0 sk0 so0 pe0 : Nat → Int32) (F0 : Nat → Int64) (lc0 sl0 : Nat → Int32) (set0 : Nat → Int64) (gv0 lm0 vk0 vf0 vs0 vo0 : Nat → Int32) :
    (∃ (kc sc : Int32) (ko fi le sk so pe : Nat → Int32) (cnt : Int32) (F : Nat → Int64) (lc sl : Nat → Int32) (vs : Int32) (set : Nat → Int64) (gv lm vk vf vst vso : Nat → Int32), f_Table_make fu (nI cap) kc0 ko0 fi0 le0 sk0 so0 pe0 F0 lc0 sl0 zR (nI C) zb rc zE zA zD = some (1, kc, sc, ko, fi, le, sk, so, pe, cnt, F, lc, sl) ∧ f_M_findSets fu (nI cap) vR vP vF vE (nI C) vAl vPe vB vBh vEn vRo vEx set0 gv0 lm0 = some (1, vs, set, gv, lm) ∧ f_M_findKinds fu (nI C) vs gv vk0 vf0 lm = some (vk, vf) ∧ f_M_number fu vcl vk lm vs0 vo0 = some (sc, vst, vso) ∧ InvB sc ko sk so pe cnt lc (nI C) zcol 0 sc vs 0 vcl vk lm vst vso gv) ∨
    (∃ (kc : Int32) (ko fi le sk so pe : Nat → Int32) (cnt : Int32) (F : Nat → Int64) (lc sl : Nat → Int32) (vs : Int32) (set : Nat → Int64) (gv lm : Nat → Int32), f_Table_make fu (nI cap) kc0 ko0 fi0 le0 sk0 so0 pe0 F0 lc0 sl0 zR (nI C) zb rc zE zA zD = some (0, kc, 0, ko, fi, le, sk, so, pe, cnt, F, lc, sl) ∧ f_M_findSets fu (nI cap) vR vP vF vE (nI C) vAl vPe vB vBh vEn vRo vEx set0 gv0 lm0 = some (0, vs, set, gv, lm)) := by
  rcases ex_all hA hP hC (by omega) hcap hcap1 F0 set0 lc0 sl0 gv0 lm0 with ⟨n, F, set, sl, gv, lc, lm, hn, hE, hL, e1, e2⟩ | ⟨⟨n1, F1, lc1, sl1, e1⟩, ⟨n2, set2, gv2, lm2, e2⟩⟩
  · refine Or.inl ?_
    obtain ⟨-, hn1, -, -, hpm⟩ := hE
    have hn2 : n ≤ 120 := by omega
    obtain ⟨ld, hld0⟩ : ∃ ld : Nat → Nat → Nat, ∀ i c, i < n → c < C → ld i c < n ∧ lc (i * 95 + c) = nI (ld i c) ∧ lm (96 * i + c) = nI (ld i c) := by
      refine ⟨fun i c => (lc (i * 95 + c)).toNatClampNeg, fun i c hi hc => ?_⟩
      obtain ⟨v, v1, v2, v3⟩ := hL i c hc (Or.inl hi)
      have : (lc (i * 95 + c)).toNatClampNeg = v := by rw [v2, nI_clamp (by omega)]
      show (lc (i * 95 + c)).toNatClampNeg < n ∧ lc (i * 95 + c) = nI (lc (i * 95 + c)).toNatClampNeg ∧ lm (96 * i + c) = nI (lc (i * 95 + c)).toNatClampNeg
      rw [this]
      exact ⟨v1, v2, v3⟩
    have hld : ∀ i c, i < n → c < C → ld i c < n := fun i c a b => (hld0 i c a b).1
    have hlc : ∀ i c, i < n → c < C → lc (i * 95 + c) = nI (ld i c) := fun i c a b => (hld0 i c a b).2.1
    have hlm : ∀ i c, i < n → c < C → lm (96 * i + c) = nI (ld i c) := fun i c a b => (hld0 i c a b).2.2
    have hgp : ∀ i, i < n → f_Graph_permissionsOf fu (nI i) (nI n) F zR zE zA zD = some (gv i) := fun i hi => gper hn2 hpm hi
    obtain ⟨kn, hEn⟩ := Ends_ex C ld n 121 0 gv (by omega) (by omega)
    have hk := Ends_lt 121 0 gv kn hEn
    -- the class
    obtain ⟨ki1, c1, c2⟩ := pbp hn2 hpm (fun l1_7 bb_kindOf_7 => some ((0 : Int32), bb_kindOf_7)) n 0 fu ko0 (by omega) (by omega) (fun j hj => by omega)
    obtain ⟨x, y, z, ki2, fi2, le2, d1, d2⟩ := roundsC hn2 hC hld hlc (by omega : 300 ≤ fu) (fun l3_25 l2_25 bb_kindCount_25 bb_kindOf_25 bb_finerKindOf_25 bb_leaderOf_25 => (Option.bind (f_Table_numberStates fu 0 bb_kindOf_25 sk0 so0 pe0 (nI n) F lc zR (nI C) zE zA zD) fun (ybb_stateCount_21, ybb_stateOfKind_22, ybb_setOfState_23, ybb_permissionsOf_24) => (if ((1 : Int32) = 0 ∨ (1 : Int32) = 1) then some ((1 : Int32), bb_kindCount_25, ybb_stateCount_21, bb_kindOf_25, bb_finerKindOf_25, bb_leaderOf_25, ybb_stateOfKind_22, ybb_setOfState_23, ybb_permissionsOf_24, nI n, F, lc, sl) else none))) 121 0 fu 0 gv ki1 fi0 le0 kn hEn (fun j hj => (c2 j hj).symm) (by omega) (by omega) (by omega)
    obtain ⟨sc, sk, so, pe, n1, n2, n3, n4⟩ := numC_ok hn2 hn1 hC hk hld hlc d2 hgp (by omega : 200 ≤ fu) sk0 so0 pe0
    -- the reference
    obtain ⟨ki3, g1, g2⟩ := givM hn2 gv (fun l2_4 v_kind_4 => (f_M_findKinds_L32 (nI C) (nI n) lm fu (fun l2_32 l1_32 v_kind_32 v_finer_32 => some (v_kind_32, v_finer_32)) fu (-1 : Int32) (0 : Int32) v_kind_4 vf0)) n 0 fu vk0 (by omega) (by omega) (fun j hj => by omega)
    obtain ⟨x', y', ki4, fi4, h1, h2⟩ := roundsM hn2 hC hld hlm (by omega : 300 ≤ fu) (fun l2_32 l1_32 v_kind_32 v_finer_32 => some (v_kind_32, v_finer_32)) 121 fu 0 (-1) gv ki3 vf0 kn hEn (fun i hi => (g2 i hi).symm) (by omega) (by decide) (by omega)
    obtain ⟨sc', vst, vso, m1, m2, m3, m4⟩ := numM_ok hn2 hn1 hC hk hld hlm h2 hco hvc (by omega : 300 ≤ fu) vs0 vo0
    -- the numbering
    have hW0 : WQ n kn (vis kn 0 q0) := (WQ0 n kn).vis (x := 0) (by omega)
    obtain ⟨w1, w2, w3⟩ := outq_ok (ld := ld) (C := C) hk hld n 0 (vis kn 0 q0) hW0 (by omega) (fun s' hs' => absurd hs' (Nat.not_lt_zero _))
    have hq1 : (vis kn 0 q0).1 = 1 := by
      have : vis kn 0 q0 = (0 + 1, va_up (fun _ => none) (kn 0) (some 0), va_up (fun _ => 0) 0 0) := vis_none rfl
      rw [this]
    have hle := w1.le hk
    generalize outq kn ld C n 0 (vis kn 0 q0) = Q at n2 n3 n4 m2 m3 m4 w1 w2 w3 hle
    rw [hq1] at w2
    have hst : ∀ s b, s < Q.1 → b < 256 → ∃ v, Q.2.1 (kn (ld (Q.2.2 s) (co b))) = some v ∧ v < Q.1 := fun s b hs hb => by
      obtain ⟨v, hv⟩ := w3 s hs (co b) (co_lt hco hb)
      exact ⟨v, hv, w1.2 _ _ hv⟩
    have hkn : ∀ s b, s < Q.1 → b < 256 → kn (ld (Q.2.2 s) (co b)) < n := fun s b hs hb => hk _ (hld _ _ (w1.1 s hs).1 (co_lt hco hb))
    have hsc : sc' = sc := m2.trans n2.symm
    subst hsc
    refine ⟨z, sc', ki2, fi2, le2, sk, so, pe, nI n, F, lc, sl, nI n, set, gv, lm, ki4, fi4, vst, vso, ?_, e2, ?_, m1, Or.inr ⟨Q.1, n, C, co, ld, kn, Q.2.2, fun k => (Q.2.1 k).getD 0, 0, ?_, ?_, ?_, ?_, by omega, rfl, rfl⟩⟩
    · unfold f_Table_make f_Table_partByPermissions
      show Option.bind (f_Graph_explore fu (nI cap) F0 lc0 sl0 (nI C) zb rc) _ = _
      rw [e1]
      show Option.bind (f_Table_partByPermissions_L7 (nI n) F zR zE zA zD fu (fun l1_7 bb_kindOf_7 => some ((0 : Int32), bb_kindOf_7)) fu (nI 0) ko0) _ = _
      rw [c1]
      refine Eq.trans d1 ?_
      show Option.bind (f_Table_numberStates fu 0 ki2 sk0 so0 pe0 (nI n) F lc zR (nI C) zE zA zD) _ = _
      rw [n1]
      rfl
    · unfold f_M_findKinds
      exact Eq.trans g1 h1
    · refine ⟨w2, by omega, hn2, hC, fun b hb => co_lt hco hb, hld, fun i hi => by have := hk i hi; omega, fun s hs => (w1.1 s hs).1, fun s b hs hb => ?_⟩
      obtain ⟨v, v1, v2⟩ := hst s b hs hb
      show (Q.2.1 (kn (ld (Q.2.2 s) (co b)))).getD 0 < Q.1
      rw [v1]
      exact v2
    · refine ⟨n2, rfl, rfl, hzc, hlc, d2, fun s hs => (n4 s hs).1, fun s b hs hb => ?_⟩
      obtain ⟨v, v1, v2⟩ := hst s b hs hb
      show sk (kn (ld (Q.2.2 s) (co b))) = nI ((Q.2.1 (kn (ld (Q.2.2 s) (co b)))).getD 0)
      rw [n3 _ (by have := hkn s b hs hb; omega), v1]
      rfl
    · refine ⟨m2, rfl, hvc, hlm, h2, m4, fun s b hs hb => ?_⟩
      obtain ⟨v, v1, v2⟩ := hst s b hs hb
      show vst (kn (ld (Q.2.2 s) (co b))) = nI ((Q.2.1 (kn (ld (Q.2.2 s) (co b)))).getD 0)
      rw [m3 _ (by have := hkn s b hs hb; omega), v1]
      rfl
    · exact fun s hs => (n4 s hs).2
  · refine Or.inr ⟨kc0, ko0, fi0, le0, sk0, so0, pe0, n1, F1, lc1, sl1, n2, set2, gv2, lm2, ?_, e2⟩
    unfold f_Table_make
    show Option.bind (f_Graph_explore fu (nI cap) F0 lc0 sl0 (nI C) zb rc) _ = _
    rw [e1]
    rfl
end MK
