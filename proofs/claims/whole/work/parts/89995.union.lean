/-! the rules are joined: on the class's side, and then on both -/
def mvb (P0 : Nat) (x : Int64) (i : Nat) : Bool := if i = 0 then lb x 0 else (decide (P0 < i) && lb x (i - P0))
theorem mv_ok {P0 : Nat} (hP : P0 ≤ 60) (x : Int64) : ∃ w, f_Union_moved x (nI P0) = some w ∧ ∀ i, i < 64 → lb w i = mvb P0 x i := by
  refine ⟨_, rfl, fun i hi => ?_⟩
  unfold mvb
  rw [lb_or, lb_and, lb_1, lb_shl P0 (by omega) _ hi, lb_and, lb_m2 (i - P0) (by omega)]
  by_cases h0 : i = 0
  · subst h0
    rw [if_pos rfl]
    simp
  · rw [if_neg h0]
    by_cases h1 : P0 < i
    · have h2 : P0 ≤ i := by omega
      have h3 : i - P0 ≠ 0 := by omega
      simp [h0, h1, h2, h3]
    · by_cases h2 : P0 = i
      · subst h2; simp [h0]
      · have h3 : ¬ P0 ≤ i := by omega
        simp [h0, h1, h3]
section UAD
variable {P0 cnt nr fu : Nat} {bh rd : Nat → Int64}
theorem ua1 (hP : P0 + cnt ≤ 60) (hc : cnt ≤ 40) (kk : Int32 → (Nat → Int64) → Option (Int32 × Int32 × (Nat → Int64) × (Nat → Int64) × (Nat → Int64) × (Nat → Int32) × (Nat → Int32))) : ∀ (d p f : Nat) (zb : Nat → Int64), p + d = cnt + 1 → 1 ≤ p → d < f → ∃ zb' : Nat → Int64, f_Union_add_L57 (nI P0) (nI cnt) bh kk f (nI p) zb = kk (nI (cnt + 1)) zb' ∧ (∀ q, p ≤ q → q ≤ cnt → ∀ i, i < 64 → lb (zb' (P0 + q)) i = mvb P0 (bh q) i) ∧ ∀ j, ¬ (P0 + p ≤ j ∧ j ≤ P0 + cnt) → zb' j = zb j
  | 0, p, f, zb, hd, hp, hf => by
    obtain ⟨f, rfl⟩ : ∃ g, f = g + 1 := ⟨f - 1, by omega⟩
    have : p = cnt + 1 := by omega
    subst this
    rw [f_Union_add_L57_s, ifT (nI_lt (by omega) (by omega))]
    exact ⟨zb, rfl, fun q h1 h2 => by omega, fun j _ => rfl⟩
  | d + 1, p, f, zb, hd, hp, hf => by
    obtain ⟨f, rfl⟩ : ∃ g, f = g + 1 := ⟨f - 1, by omega⟩
    have q1 : ¬ nI cnt < nI p := fun z => by have := (nI_ltI (by omega) (by omega)).mp z; omega
    obtain ⟨w, w1, w2⟩ := mv_ok (show P0 ≤ 60 by omega) (bh p)
    obtain ⟨zb', g1, g2, g3⟩ := ua1 hP hc kk d (p + 1) f (vp_updL zb (P0 + p) w) (by omega) (by omega) (by omega)
    refine ⟨zb', ?_, fun q h1 h2 i hi => ?_, fun j hj => ?_⟩
    · have q41 : ¬ (41 : Int32) ≤ nI p := nI_ge (b := 41) (by omega) (by decide)
      rw [f_Union_add_L57_s, ifF q1, ifF q41, ifT (inB_nI (by omega) (by omega)), nI_clamp (by omega), w1, ob, nI_add, ifT (inB_nI (by omega) (by omega)), nI_clamp (by omega), nI_1]
      exact g1
    · by_cases e : q = p
      · subst e
        rw [g3 (P0 + q) (by omega), pk_uLs]
        exact w2 i hi
      · exact g2 q (by omega) h2 i hi
    · rw [g3 j (by omega), pk_uLn (by omega)]
theorem ua2 (hP : P0 ≤ 60) (kk : Int32 → (Nat → Int64) → Option (Int32 × Int32 × (Nat → Int64) × (Nat → Int64) × (Nat → Int64) × (Nat → Int32) × (Nat → Int32))) : ∀ (d s f : Nat) (R : Nat → Int64), s + d = 95 → d < f → ∃ R' : Nat → Int64, f_Union_add_L103 rd (nI P0) kk f (nI s) R = kk (nI 95) R' ∧ (∀ s', s ≤ s' → s' < 95 → ∀ i, i < 64 → lb (R' s') i = (lb (R s') i || mvb P0 (rd s') i)) ∧ ∀ s', s' < s → R' s' = R s'
  | 0, s, f, R, hd, hf => by
    obtain ⟨f, rfl⟩ : ∃ g, f = g + 1 := ⟨f - 1, by omega⟩
    have : s = 95 := by omega
    subst this
    rw [f_Union_add_L103_s]
    exact ⟨R, ifT (by decide), fun q h1 h2 => by omega, fun j _ => rfl⟩
  | d + 1, s, f, R, hd, hf => by
    obtain ⟨f, rfl⟩ : ∃ g, f = g + 1 := ⟨f - 1, by omega⟩
    have q95 : ¬ (95 : Int32) ≤ nI s := nI_ge (b := 95) (by omega) (by decide)
    have hin : inB (nI s) 95 = true := inB_nI (by omega) (by omega)
    obtain ⟨w, w1, w2⟩ := mv_ok hP (rd s)
    obtain ⟨R', g1, g2, g3⟩ := ua2 hP kk d (s + 1) f (vp_updL R s (R s ||| w)) (by omega) (by omega)
    refine ⟨R', ?_, fun s' h1 h2 i hi => ?_, fun j hj => ?_⟩
    · rw [f_Union_add_L103_s, ifF q95, ifT hin, ifT hin, nI_clamp (by omega), w1, ob, ifT hin, nI_1]
      exact g1
    · by_cases e : s' = s
      · subst e
        rw [g3 s' (by omega), pk_uLs, lb_or, w2 i hi]
      · rw [g2 s' (by omega) h2 i hi, pk_uLn e]
    · rw [g3 j (by omega), pk_uLn (by omega)]
theorem add_ok (hP : P0 + cnt ≤ 60) (hc : cnt ≤ 40) (hnr : nr < 6) (hfu : 200 ≤ fu) (zb R zE : Nat → Int64) (zA zD : Nat → Int32) (al pe : Int32) (en : Int64) :
    ∃ (zb' R' zE' : Nat → Int64), f_Union_add fu (nI P0) (nI nr) zb R zE zA zD al pe (nI cnt) en bh rd = some (nI (P0 + cnt), nI (nr + 1), zb', R', zE', upd zA nr (if al = 0 then 0 else pe), upd zD nr (if al = 0 then pe else 0)) ∧ (∀ i, i < 64 → lb (zb' 0) i = (lb (zb 0) i || mvb P0 (bh 0) i)) ∧ (∀ q, 1 ≤ q → q ≤ cnt → ∀ i, i < 64 → lb (zb' (P0 + q)) i = mvb P0 (bh q) i) ∧ (∀ j, 1 ≤ j → j ≤ P0 → zb' j = zb j) ∧ (∀ s, s < 95 → ∀ i, i < 64 → lb (R' s) i = (lb (R s) i || mvb P0 (rd s) i)) ∧ (∀ i, i < 64 → lb (zE' nr) i = mvb P0 en i) ∧ ∀ r, ¬ r = nr → zE' r = zE r := by
  obtain ⟨w, w1, w2⟩ := mv_ok (show P0 ≤ 60 by omega) (bh 0)
  obtain ⟨e, e1, e2⟩ := mv_ok (show P0 ≤ 60 by omega) en
  have hin6 : inB (nI nr) 6 = true := inB_nI hnr (by omega)
  obtain ⟨R', b1, b2, -⟩ := ua2 (rd := rd) (show P0 ≤ 60 by omega) (fun l3_103 zz_readersOf_103 => some (nI 0, nI 0, zb, zz_readersOf_103, zE, zA, zD)) 95 0 fu R (by omega) (by omega)
  -- the readers' loop with its own continuation
  have two : ∀ kk, ∃ R' : Nat → Int64, f_Union_add_L103 rd (nI P0) kk fu (nI 0) R = kk (nI 95) R' ∧ ∀ s, s < 95 → ∀ i, i < 64 → lb (R' s) i = (lb (R s) i || mvb P0 (rd s) i) := fun kk => by
    obtain ⟨R', b1, b2, -⟩ := ua2 (rd := rd) (show P0 ≤ 60 by omega) kk 95 0 fu R (by omega) (by omega)
    exact ⟨R', b1, fun s hs => b2 s (Nat.zero_le _) hs⟩
  have tail : ∀ (zb1 R1 : Nat → Int64), (Option.bind (f_Union_moved en (nI P0)) fun r10 => (if inB (nI nr) 6 = true then (if al = 0 then (f_Union_add_J174 al pe (nI cnt) (nI nr) (0 : Int32) (nI P0) (nI nr) zb1 R1 (vp_updL zE (nI nr).toNatClampNeg r10) zA zD) else (f_Union_add_J174 al pe (nI cnt) (nI nr) pe (nI P0) (nI nr) zb1 R1 (vp_updL zE (nI nr).toNatClampNeg r10) zA zD)) else none)) = some (nI (P0 + cnt), nI (nr + 1), zb1, R1, vp_updL zE nr e, upd zA nr (if al = 0 then 0 else pe), upd zD nr (if al = 0 then pe else 0)) := fun zb1 R1 => by
    rw [e1, ob, ifT hin6, nI_clamp (by omega)]
    unfold f_Union_add_J174 f_Union_add_J198
    by_cases z : al = 0
    · rw [ifT z, ifT hin6, ifT z, ifT hin6, nI_clamp (by omega), nI_add, nI_1, if_pos z, if_pos z]
    · rw [ifF z, ifT hin6, ifF z, ifT hin6, nI_clamp (by omega), nI_add, nI_1, if_neg z, if_neg z]
  obtain ⟨zb1, c1, c2, c3⟩ := ua1 (bh := bh) hP hc (fun l3_57 zz_behind_57 => (f_Union_add_J101 al pe (nI cnt) en rd fu (nI P0) (nI nr) zz_behind_57 R zE zA zD)) cnt 1 fu (vp_updL zb 0 (zb 0 ||| w)) (by omega) (by omega) (by omega)
  obtain ⟨R1, d1, d2⟩ := two (fun l3_103 zz_readersOf_103 => (Option.bind (f_Union_moved en (nI P0)) fun r10 => (if inB (nI nr) 6 = true then (if al = 0 then (f_Union_add_J174 al pe (nI cnt) (nI nr) (0 : Int32) (nI P0) (nI nr) zb1 zz_readersOf_103 (vp_updL zE (nI nr).toNatClampNeg r10) zA zD) else (f_Union_add_J174 al pe (nI cnt) (nI nr) pe (nI P0) (nI nr) zb1 zz_readersOf_103 (vp_updL zE (nI nr).toNatClampNeg r10) zA zD)) else none)))
  refine ⟨zb1, R1, vp_updL zE nr e, ?_, fun i hi => ?_, fun q h1 h2 i hi => c2 q h1 h2 i hi, fun j h1 h2 => ?_, d2, fun i hi => by rw [pk_uLs]; exact e2 i hi, fun r hr => pk_uLn hr⟩
  · have q6 : ¬ (6 : Int32) ≤ nI nr := nI_ge (b := 6) hnr (by decide)
    have q60 : nI (P0 + cnt) ≤ (60 : Int32) := nI_le (b := 60) hP (by decide)
    have h0 : inB (0 : Int32) 61 = true := by decide
    have h0' : inB (0 : Int32) 41 = true := by decide
    have z0 : (0 : Int32).toNatClampNeg = 0 := rfl
    unfold f_Union_add
    rw [ifF q6, nI_add, ifT q60, ifT h0, ifT h0', z0, w1, ob, ifT h0]
    refine Eq.trans c1 ?_
    show f_Union_add_J101 al pe (nI cnt) en rd fu (nI P0) (nI nr) zb1 R zE zA zD = _
    unfold f_Union_add_J101
    exact Eq.trans d1 (tail zb1 R1)
  · rw [c3 0 (by omega), pk_uLs, lb_or, w2 i hi]
  · rw [c3 j (by omega), pk_uLn (by omega)]
end UAD
theorem Sh.mono {P P' : Nat} {x y : Int64} (hP' : P' ≤ 60) (h : Sh P x y) (hP : P ≤ P') : Sh P' x y := by
  refine ⟨h.1, fun p hp => ?_, fun p h1 h2 => h.2.2.1 p (by omega) h2, fun p h1 h2 => h.2.2.2 p (by omega) h2⟩
  by_cases z : p < P
  · exact h.2.1 p z
  · rw [h.2.2.2 (p + 1) (by omega) (by omega), h.2.2.1 p (by omega) (by omega)]
section UIS
variable {P0 nr n a x : Nat} {kd : Nat → Nat} {sr : Nat → Bool} {S : Nat → SS} {zb R zE zb' R' zE' : Nat → Int64} {zA zD : Nat → Int32} {vF : Int64} {vE : Int32} {vAl vPe : Nat → Int32} {vB vBh vB' vBh' : Nat → Int64} {vEn vRo vEn' vRo' : Nat → Int32} {bh rd : Nat → Int64} {en : Int64}
/-- the rules so far are the same on both sides -/
def UI (P nr : Nat) (zb R zE : Nat → Int64) (zA zD : Nat → Int32) (vF : Int64) (vE : Int32) (vAl vPe : Nat → Int32) (vB vBh : Nat → Int64) (vEn vRo : Nat → Int32) : Prop := ∃ ro, UR P nr zb R zE zA zD vF vE vAl vPe vB vBh vEn vRo ro ∧ (∀ r, nr ≤ r → r < 32 → bt vE r = false) ∧ ∀ r, r < nr → ∀ i, P + 1 ≤ i → i < 64 → lb (zE r) i = false
/-- a glob's own pieces, moved, are the reference's -/
theorem mv_sh {w mv : Int64} {s : Nat} (hP : P0 + pn kd x ≤ 60) (hs : s < 41) (hE : EB kd sr x en bh) (hw : ∀ i, lb w i = true ↔ ∃ y, y < x ∧ kd y = 0 ∧ i = P0 + pn kd y ∧ Ar kd sr y s) (hm : ∀ i, i < 64 → lb mv i = mvb P0 (bh s) i) : lb mv 0 = false ∧ (∀ p, p < 63 → lb mv (p + 1) = lb w p) ∧ ∀ p, lb w p = true → P0 ≤ p ∧ p < P0 + pn kd x := by
  have hb0 : lb (bh s) 0 = false := ts_nt (fun z => by
    obtain ⟨y, -, -, y3, -⟩ := (hE.2 s hs 0).mp z
    omega)
  refine ⟨?_, fun p hp => ?_, fun p h => ?_⟩
  · rw [hm 0 (by omega)]; exact hb0
  · rw [hm (p + 1) (by omega), Bool.eq_iff_iff, hw p]
    unfold mvb
    rw [if_neg (by omega), Bool.and_eq_true, decide_eq_true_eq, hE.2 s hs]
    constructor
    · rintro ⟨h1, y, y1, y2, y3, y4⟩; exact ⟨y, y1, y2, by omega, y4⟩
    · rintro ⟨y, y1, y2, y3, y4⟩; exact ⟨by omega, y, y1, y2, by omega, y4⟩
  · obtain ⟨y, y1, y2, y3, y4⟩ := (hw p).mp h
    have := pn_lt y1 y2
    exact ⟨by omega, by omega⟩
theorem ui_step (h : UI P0 nr zb R zE zA zD vF vE vAl vPe vB vBh vEn vRo) (hnr : nr < 6) (hP : P0 + pn kd x ≤ 60) (hx40 : x ≤ 40) (hWS : WS n a x kd []) (hE : EB kd sr x en bh) (hR : RDc (pn kd x) S (fun _ => false) rd)
    (c0 : ∀ i, i < 64 → lb (zb' 0) i = (lb (zb 0) i || mvb P0 (bh 0) i)) (c1 : ∀ q, 1 ≤ q → q ≤ pn kd x → ∀ i, i < 64 → lb (zb' (P0 + q)) i = mvb P0 (bh q) i) (c2 : ∀ j, 1 ≤ j → j ≤ P0 → zb' j = zb j) (c3 : ∀ s, s < 95 → ∀ i, i < 64 → lb (R' s) i = (lb (R s) i || mvb P0 (rd s) i)) (c4 : ∀ i, i < 64 → lb (zE' nr) i = mvb P0 en i) (c5 : ∀ r, ¬ r = nr → zE' r = zE r)
    {w0 : Int64} {vE' : Int32} (m0 : HBf P0 (pn kd x) vB S vB') (m1 : ∀ i, lb w0 i = true ↔ ∃ y, y < x ∧ kd y = 0 ∧ i = P0 + pn kd y ∧ Ar kd sr y 0) (m2 : (Ar kd sr x 0 ∧ vE' = vE ||| ((1 : Int32) <<< (nI nr &&& 31))) ∨ (¬ Ar kd sr x 0 ∧ vE' = vE)) (m3 : ∀ p, p < P0 → vBh' p = vBh p ∧ vEn' p = vEn p ∧ vRo' p = vRo p) (m4 : ∀ z, z < x → kd z = 0 → (∀ i, lb (vBh' (P0 + pn kd z)) i = true ↔ ∃ y, y < x ∧ kd y = 0 ∧ i = P0 + pn kd y ∧ Ar kd sr y (pn kd z + 1)) ∧ (vEn' (P0 + pn kd z) = 0 ↔ ¬ Ar kd sr x (pn kd z + 1)) ∧ vRo' (P0 + pn kd z) = nI nr) :
    UI (P0 + pn kd x) (nr + 1) zb' R' zE' (upd zA nr (if vAl nr = 0 then 0 else vPe nr)) (upd zD nr (if vAl nr = 0 then vPe nr else 0)) (vF ||| w0) vE' vAl vPe vB' vBh' vEn' vRo' := by
  obtain ⟨ro, hU, hV, hZ⟩ := h
  have h4 : kd x = 4 := hWS.2.2.1 x (Nat.le_refl _)
  have hAx : ∀ s, Ar kd sr x s ↔ (gs kd sr x).1 s := fun s => by
    unfold Ar
    constructor
    · rintro (q | q | q)
      · exact q
      · omega
      · omega
    · exact Or.inl
  have hpx := pn_le (kd := kd) x
  have bit : ∀ i, i < 32 → bt ((1 : Int32) <<< (nI nr &&& 31)) i = decide (i = nr) := fun i hi => bbit (by omega) hi
  -- piece p >= P0 is some item
  have item : ∀ p, P0 ≤ p → p < P0 + pn kd x → ∃ z, z < x ∧ kd z = 0 ∧ p = P0 + pn kd z := fun p h1 h2 => by
    obtain ⟨z, z1, z2, z3⟩ := pn_sur (kd := kd) x (p - P0) (by omega)
    exact ⟨z, z1, z2, by omega⟩
  have sh0 := mv_sh (mv := zb' 0) hP (show 0 < 41 by omega) hE m1
  refine ⟨fun p => if p < P0 then ro p else nr, ⟨hP, by omega, ?_, fun p hp => ?_, ⟨fun s hs => ⟨?_, fun p h1 h2 => ?_⟩, fun p hp b hb' => ?_⟩, fun r hr => ?_, fun r hr p hp => ?_, fun p hp => ?_, fun r hr => ?_⟩, fun r h1 h2 => ?_, fun r hr i h1 h2 => ?_⟩
  · -- b0
    obtain ⟨mv, v1, v2⟩ := mv_ok (show P0 ≤ 60 by omega) (bh 0)
    obtain ⟨s1, s2, s3⟩ := mv_sh (mv := mv) hP (show 0 < 41 by omega) hE m1 v2
    have hb := hU.b0
    refine ⟨?_, fun p hp => ?_, fun p h1 h2 => ?_, fun p h1 h2 => ?_⟩
    · rw [c0 0 (by omega), hb.1, ← v2 0 (by omega), s1]; rfl
    · rw [c0 (p + 1) (by omega), ← v2 (p + 1) (by omega), s2 p (by omega), lb_or]
      by_cases z : p < P0
      · rw [hb.2.1 p z]
      · rw [hb.2.2.2 (p + 1) (by omega) (by omega), hb.2.2.1 p (by omega) (by omega)]
    · have : lb w0 p = false := ts_nt (fun z => by have := s3 p z; omega)
      rw [lb_or, hb.2.2.1 p (by omega) h2, this]; rfl
    · obtain ⟨q, rfl⟩ : ∃ q, p = q + 1 := ⟨p - 1, by omega⟩
      have : lb w0 q = false := ts_nt (fun z => by have := s3 q z; omega)
      rw [c0 (q + 1) h2, hb.2.2.2 (q + 1) (by omega) h2, ← v2 (q + 1) h2, s2 q (by omega), this]; rfl
  · -- bp
    by_cases z : p < P0
    · rw [c2 (p + 1) (by omega) (by omega), (m3 p z).1]
      exact (hU.bp p z).mono hP (by omega)
    · obtain ⟨y, y1, y2, y3⟩ := item p (by omega) hp
      have hyl := pn_lt y1 y2
      obtain ⟨s1, s2, s3⟩ := mv_sh (mv := zb' (P0 + (pn kd y + 1))) hP (show pn kd y + 1 < 41 by omega) hE (m4 y y1 y2).1 (c1 (pn kd y + 1) (by omega) (by omega))
      rw [y3, show P0 + pn kd y + 1 = P0 + (pn kd y + 1) by omega]
      refine ⟨s1, fun q hq => s2 q (by omega), fun q h1 h2 => ts_nt (fun z => by have := s3 q z; omega), fun q h1 h2 => ?_⟩
      obtain ⟨q', rfl⟩ : ∃ q', q = q' + 1 := ⟨q - 1, by omega⟩
      rw [s2 q' (by omega)]
      exact ts_nt (fun z => by have := s3 q' z; omega)
  · -- readers, bit 0
    rw [c3 s hs 0 (by omega), (hU.rd.1 s hs).1]
    have : lb (rd s) 0 = false := ts_nt (fun z => by
      rcases (hR s hs 0).mp z with ⟨q, -, q2, -⟩ | ⟨-, q⟩
      · omega
      · cases q)
    show (false || lb (rd s) 0) = false
    rw [this]; rfl
  · -- readers, bits behind
    rw [c3 s hs p h2, (hU.rd.1 s hs).2 p (by omega) h2]
    unfold mvb
    rw [if_neg (by omega)]
    have : lb (rd s) (p - P0) = false := ts_nt (fun z => by
      rcases (hR s hs (p - P0)).mp z with ⟨q, q1, q2, -⟩ | ⟨-, q⟩
      · omega
      · cases q)
    rw [this, Bool.and_false]; rfl
  · -- readers are bytes
    have hsb := sy_lt b
    rw [c3 (sy b) hsb (p + 1) (by omega)]
    unfold mvb
    rw [if_neg (by omega)]
    by_cases z : p < P0
    · rw [m0.1 p z b hb', hU.rd.2 p z b hb', decide_eq_false (by omega), Bool.false_and, Bool.or_false]
    · have e : hb vB' p b = S (p - P0) (sy b) := by
        have := m0.2 (p - P0) (by omega) b hb'
        rw [show P0 + (p - P0) = p by omega] at this
        exact this
      rw [(hU.rd.1 (sy b) hsb).2 (p + 1) (by omega) (by omega), decide_eq_true (by omega), Bool.true_and, Bool.false_or, e, Bool.eq_iff_iff, hR (sy b) hsb (p + 1 - P0)]
      constructor
      · intro q; exact Or.inl ⟨p - P0, by omega, by omega, q⟩
      · rintro (⟨q, q1, q2, q3⟩ | ⟨-, q⟩)
        · rw [show p - P0 = q by omega]; exact q3
        · cases q
  · -- e0
    by_cases z : r = nr
    · subst z
      rw [c4 0 (by omega)]
      show lb en 0 = bt vE' r
      have hbr := hV r (Nat.le_refl _) (by omega)
      rw [Bool.eq_iff_iff, hE.1 0, ← hAx 0]
      rcases m2 with ⟨q1, q2⟩ | ⟨q1, q2⟩
      · rw [q2, b_or, hbr, bit r (by omega)]
        simp [q1]
      · rw [q2, hbr]
        simp [q1]
    · rw [c5 r z, hU.e0 r (by omega)]
      rcases m2 with ⟨q1, q2⟩ | ⟨q1, q2⟩
      · rw [q2, b_or, bit r (by omega)]
        simp [z]
      · rw [q2]
  · -- ep
    show lb (zE' r) (p + 1) = true ↔ ¬ vEn' p = 0 ∧ (if p < P0 then ro p else nr) = r
    by_cases z : r = nr
    · subst z
      rw [c4 (p + 1) (by omega)]
      unfold mvb
      rw [if_neg (by omega), Bool.and_eq_true, decide_eq_true_eq]
      by_cases y : p < P0
      · rw [if_pos y]
        constructor
        · rintro ⟨q, -⟩; omega
        · rintro ⟨-, q⟩; have := (hU.er p y).2; omega
      · obtain ⟨w, w1, w2, w3⟩ := item p (by omega) hp
        rw [if_neg y, w3, show P0 + pn kd w + 1 - P0 = pn kd w + 1 by omega, hE.1, ← hAx]
        have hh := (m4 w w1 w2).2.1
        constructor
        · rintro ⟨-, q⟩; exact ⟨fun q' => (hh.mp q') q, rfl⟩
        · rintro ⟨q, -⟩; exact ⟨by omega, Classical.byContradiction fun q' => q (hh.mpr q')⟩
    · rw [c5 r z]
      by_cases y : p < P0
      · rw [if_pos y, (m3 p y).2.1]
        exact hU.ep r (by omega) p y
      · rw [if_neg y, hZ r (by omega) (p + 1) (by omega) (by omega)]
        constructor
        · intro q; cases q
        · rintro ⟨-, q⟩; omega
  · -- er
    show vRo' p = nI (if p < P0 then ro p else nr) ∧ (if p < P0 then ro p else nr) < nr + 1
    by_cases y : p < P0
    · rw [if_pos y, (m3 p y).2.2]
      have := hU.er p y
      exact ⟨this.1, by omega⟩
    · obtain ⟨w, w1, w2, w3⟩ := item p (by omega) hp
      rw [if_neg y, w3]
      exact ⟨(m4 w w1 w2).2.2, by omega⟩
  · -- al
    by_cases z : r = nr
    · subst z; rw [pk_us, pk_us]; exact ⟨rfl, rfl⟩
    · rw [pk_un z, pk_un z]; exact hU.al r (by omega)
  · -- bits of emptyOf
    rcases m2 with ⟨q1, q2⟩ | ⟨q1, q2⟩
    · rw [q2, b_or, hV r (by omega) h2, bit r h2, decide_eq_false (by omega)]; rfl
    · rw [q2]; exact hV r (by omega) h2
  · -- bits of ends
    by_cases z : r = nr
    · subst z
      rw [c4 i h2]
      unfold mvb
      rw [if_neg (by omega)]
      have : lb en (i - P0) = false := ts_nt (fun q => by
        have := (gs_bd (kd := kd) (sr := sr) x).1 _ ((hE.1 (i - P0)).mp q)
        omega)
      rw [this, Bool.and_false]
    · rw [c5 r z]; exact hZ r (by omega) i (by omega) h2
theorem UI0 {zb R zE : Nat → Int64} {zA zD : Nat → Int32} {vAl vPe : Nat → Int32} {vB vBh : Nat → Int64} {vEn vRo : Nat → Int32} (hb : zb 0 = 0) (hR : ∀ s, s < 95 → R s = 0) : UI 0 0 zb R zE zA zD 0 0 vAl vPe vB vBh vEn vRo := by
  refine ⟨fun _ => 0, ⟨by omega, by omega, ?_, fun p hp => absurd hp (Nat.not_lt_zero _), ⟨fun s hs => ⟨by rw [hR s hs, lb_0], fun p _ _ => by rw [hR s hs, lb_0]⟩, fun p hp => absurd hp (Nat.not_lt_zero _)⟩, fun r hr => absurd hr (Nat.not_lt_zero _), fun r hr => absurd hr (Nat.not_lt_zero _), fun p hp => absurd hp (Nat.not_lt_zero _), fun r hr => absurd hr (Nat.not_lt_zero _)⟩, fun r _ _ => b_0 r, fun r hr => absurd hr (Nat.not_lt_zero _)⟩
  rw [hb]
  exact ⟨lb_0 0, fun p hp => absurd hp (Nat.not_lt_zero _), fun p _ _ => lb_0 p, fun p _ _ => lb_0 p⟩
end UIS
