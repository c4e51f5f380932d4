/-! a rule is laid down: what its text gives, on the reference's side -/
def tN (t : Nat → Int32) (i : Nat) : Nat := (t i).toNatClampNeg
/-- a glob's data are what its text gives -/
def Gl : GT_ := fun t n cnt bh rd en => ∃ (a x : Nat) (kd : Nat → Nat) (sr : Nat → Bool) (S : Nat → SS), parse (tN t) n = .inr (a, x, kd, sr, S, []) ∧ cnt = pn kd x ∧ WS n a x kd [] ∧ EB kd sr x en bh ∧ RDc (pn kd x) S (fun _ => false) rd
section LAY
variable {n a x fu : Nat} {kd : Nat → Nat} {sr : Nat → Bool} {P0 : Nat} {vB0 : Nat → Int64} {S : Nat → SS} {so pi on : Nat → Int32} {vB : Nat → Int64} {vS : Nat → Int32}
theorem Src_0 (y : Nat) : Src kd sr 0 y ↔ y = 0 := by
  constructor
  · rintro (⟨-, h⟩ | ⟨z, -, h, -⟩)
    · exact h
    · omega
  · intro h; exact Or.inl ⟨rfl, h⟩
theorem Src_p {z : Nat} (hz : kd z = 0) (y : Nat) : Src kd sr (pn kd z + 1) y ↔ y = if sr z = true then z else z + 1 := by
  constructor
  · rintro (⟨h, -⟩ | ⟨w, h1, h2, h3⟩)
    · omega
    · have : w = z := pn_inj h1 hz (by omega)
      subst this; exact h3
  · intro h; exact Or.inr ⟨z, hz, rfl, h⟩
theorem WS.wk (h : WS n a x kd []) : WK3 kd (x + 1) := fun y hy hk => by
  by_cases e : y = x
  · subst e; have := h.2.2.1 y (Nat.le_refl _); omega
  · exact h.2.2.2.2.2.2 y (by omega) hk
theorem Ar_Rr (h : WS n a x kd []) {s p y : Nat} (hs : ∀ y, Src kd sr s y ↔ y = p) (hy : y < x + 1) : Ar kd sr y s ↔ Rr kd sr p y := (gs_reach h.wk hy s).trans (Re_Rr hs y)
theorem lay_loop (hfu : 200 ≤ fu) (hWS : WS n a x kd []) (hn : n ≤ 40) (hP : P0 + pn kd x ≤ 60) (hE : RMe P0 vB0 x kd sr S so pi on vB vS) (r : Int32) (kk : Int32 → (Nat → Int32) → (Nat → Int32) → (Nat → Int64) → (Nat → Int32) → (Nat → Int32) → Option (Int32 × Int32 × Int64 × Int32 × (Nat → Int32) × (Nat → Int32) × (Nat → Int32) × (Nat → Int32) × (Nat → Int32) × (Nat → Int32) × (Nat → Int64) × (Nat → Int32) × (Nat → Int64) × (Nat → Int32) × (Nat → Int32))) {bh0 : Nat → Int64} {en0 ro0 : Nat → Int32} : ∀ (d k f : Nat) (sn st : Nat → Int32) (bh : Nat → Int64) (en ro : Nat → Int32), k + d = x + 1 → d < f → (∀ p, p < P0 → bh p = bh0 p ∧ en p = en0 p ∧ ro p = ro0 p) → (∀ z, z < x → z < k → kd z = 0 → (∀ i, lb (bh (P0 + pn kd z)) i = true ↔ ∃ y, y < x ∧ kd y = 0 ∧ i = P0 + pn kd y ∧ Ar kd sr y (pn kd z + 1)) ∧ (en (P0 + pn kd z) = 0 ↔ ¬ Ar kd sr x (pn kd z + 1)) ∧ ro (P0 + pn kd z) = r) →
    ∃ (sn' st' : Nat → Int32) (bh' : Nat → Int64) (en' ro' : Nat → Int32), f_M_lay_L72 r (nI (x + 1)) so pi on vS fu kk f (nI k) sn st bh en ro = kk (nI (x + 1)) sn' st' bh' en' ro' ∧ (∀ p, p < P0 → bh' p = bh0 p ∧ en' p = en0 p ∧ ro' p = ro0 p) ∧ ∀ z, z < x → kd z = 0 → (∀ i, lb (bh' (P0 + pn kd z)) i = true ↔ ∃ y, y < x ∧ kd y = 0 ∧ i = P0 + pn kd y ∧ Ar kd sr y (pn kd z + 1)) ∧ (en' (P0 + pn kd z) = 0 ↔ ¬ Ar kd sr x (pn kd z + 1)) ∧ ro' (P0 + pn kd z) = r := by
  intro d
  have hx : x ≤ 40 := by have := hWS.1; have := hWS.2.1; omega
  have h4 : kd x = 4 := hWS.2.2.1 x (Nat.le_refl _)
  have hk3 := hWS.2.2.2.1
  induction d with
  | zero =>
    intro k f sn st bh en ro hd hf h1 h2
    obtain ⟨f, rfl⟩ : ∃ g, f = g + 1 := ⟨f - 1, by omega⟩
    have : k = x + 1 := by omega
    subst this
    rw [f_M_lay_L72_s, ifT (nI_le (Nat.le_refl _) (by omega))]
    exact ⟨sn, st, bh, en, ro, rfl, h1, fun z hz hk => h2 z hz (by omega) hk⟩
  | succ d ih =>
    intro k f sn st bh en ro hd hf h1 h2
    obtain ⟨f, rfl⟩ : ∃ g, f = g + 1 := ⟨f - 1, by omega⟩
    have hin : inB (nI k) 42 = true := inB_nI (by omega) (by omega)
    have hkd : kd k ≤ 4 := by
      by_cases e : k = x
      · rw [e, h4]; omega
      · have := hk3 k (by omega); omega
    rw [f_M_lay_L72_s, ifF (nI_ge (by omega) (by omega)), ifT hin, nI_clamp (by omega), hE.1 k (by omega)]
    by_cases hk : kd k = 0
    · have hkx : k < x := Nat.lt_of_le_of_ne (by omega) (fun e => by rw [e, h4] at hk; omega)
      have hpl := pn_lt hkx hk
      obtain ⟨e1, e2⟩ := hE.2.1 k hkx hk
      -- spreading from place s
      have main : ∀ s, s < x + 1 → (∀ y, Src kd sr (pn kd k + 1) y ↔ y = s) → ∃ (sn' st' : Nat → Int32) (bh' : Nat → Int64) (en' ro' : Nat → Int32), f_M_lay_J113 r (nI (x + 1)) so pi on vS fu (fun l2_72 v_seen_72 v_stack_72 v_behind_72 v_ends_72 v_ruleOf_72 => f_M_lay_L72 r (nI (x + 1)) so pi on vS fu kk f l2_72 v_seen_72 v_stack_72 v_behind_72 v_ends_72 v_ruleOf_72) (nI (P0 + pn kd k)) (nI k) (nI s) sn st bh en ro = kk (nI (x + 1)) sn' st' bh' en' ro' ∧ (∀ p, p < P0 → bh' p = bh0 p ∧ en' p = en0 p ∧ ro' p = ro0 p) ∧ ∀ z, z < x → kd z = 0 → (∀ i, lb (bh' (P0 + pn kd z)) i = true ↔ ∃ y, y < x ∧ kd y = 0 ∧ i = P0 + pn kd y ∧ Ar kd sr y (pn kd z + 1)) ∧ (en' (P0 + pn kd z) = 0 ↔ ¬ Ar kd sr x (pn kd z + 1)) ∧ ro' (P0 + pn kd z) = r := fun s hs hsrc => by
        obtain ⟨sn1, st1, V, g1, g2, g3⟩ := sp_ok hfu hWS hn (by omega) hE hs sn st
        obtain ⟨y, g4, g5⟩ := mrk_ok (by omega : 100 ≤ fu) hx hP hE h4 hk3 g2
        have hin60 : inB (nI (P0 + pn kd k)) 60 = true := inB_nI (by omega) (by omega)
        have ex1 : nI (x + 1) - 1 = nI x := pk_sub (b := 1) (by omega)
        have hsnx := g2 x (by omega)
        have hnar : vp_nar .boolean (sn1 x) = sn1 x := nar01 (by
          rw [hsnx]
          by_cases q : V x = true
          · rw [if_pos q]; exact Or.inr rfl
          · rw [if_neg q]; exact Or.inl rfl)
        have hAr : ∀ y, y < x + 1 → (V y = true ↔ Ar kd sr y (pn kd k + 1)) := fun y hy => (g3 y hy).trans (Ar_Rr hWS hsrc hy).symm
        obtain ⟨sn2, st2, bh2, en2, ro2, i1, i2, i3⟩ := ih (k + 1) f sn1 st1 (vp_updL bh (P0 + pn kd k) y) (upd en (P0 + pn kd k) (sn1 x)) (upd ro (P0 + pn kd k) r) (by omega) (by omega) (fun p hp => by rw [pk_uLn (by omega), pk_un (by omega), pk_un (by omega)]; exact h1 p hp) (fun z hz hzk hkz => by
          by_cases e : z = k
          · subst e
            rw [pk_uLs, pk_us, pk_us]
            refine ⟨fun i => (g5 i).trans ?_, ?_, rfl⟩
            · constructor
              · rintro ⟨w, w1, w2, w3, w4⟩; exact ⟨w, w1, w2, w3, (hAr w (by omega)).mp w4⟩
              · rintro ⟨w, w1, w2, w3, w4⟩; exact ⟨w, w1, w2, w3, (hAr w (by omega)).mpr w4⟩
            · rw [hsnx]
              by_cases q : V x = true
              · rw [if_pos q]
                exact ⟨fun z => absurd z (by decide), fun z => absurd ((hAr x (by omega)).mp q) z⟩
              · rw [if_neg q]
                exact ⟨fun _ z => q ((hAr x (by omega)).mpr z), fun _ => rfl⟩
          · have hlt : pn kd z < pn kd k := pn_lt (by omega) hkz
            rw [pk_uLn (by omega), pk_un (by omega), pk_un (by omega)]
            exact h2 z hz (by omega) hkz)
        refine ⟨sn2, st2, bh2, en2, ro2, ?_, i2, i3⟩
        unfold f_M_lay_J113
        rw [g1, ob]
        dsimp only
        rw [g4, ob, ifT hin60, ex1, ifT (inB_nI (by omega) (by omega)), ifT hin60, ifT hin60, nI_clamp (by omega), nI_clamp (by omega), hnar, nI_1]
        exact i1
      rw [ifT (show nI (kd k) = 0 by rw [hk]; rfl), ifT hin, e1, ifT (inB_nI (by omega) (by omega)), nI_clamp (by omega), e2]
      by_cases hs : sr k = true
      · rw [if_pos hs, ifF (by decide)]
        exact main k (by omega) (fun y => by rw [Src_p hk y, if_pos hs])
      · rw [if_neg hs, ifT rfl, nI_1]
        exact main (k + 1) (by omega) (fun y => by rw [Src_p hk y, if_neg hs])
    · have n0 : ¬ nI (kd k) = 0 := fun q => hk ((nI_eq (b := 0) (by omega) (by omega)).mp q)
      rw [ifF n0]
      show ∃ (sn' st' : Nat → Int32) (bh' : Nat → Int64) (en' ro' : Nat → Int32), f_M_lay_L72 r (nI (x + 1)) so pi on vS fu kk f (nI k + 1) sn st bh en ro = kk (nI (x + 1)) sn' st' bh' en' ro' ∧ _
      rw [nI_1]
      refine ih (k + 1) f sn st bh en ro (by omega) (by omega) h1 (fun z hz hzk hkz => h2 z hz ?_ hkz)
      have : z ≠ k := fun e => hk (e ▸ hkz)
      omega
/-- lay -/
theorem lay_ok {t : Nat → Nat} {r : Nat} {vG vL : Nat → Int32} (hfu : 300 ≤ fu) (hr : r < 6) (hT : TXM t n (40 * r) 240 vG) (hlen : vL r = nI n) (hpar : parse t n = .inr (a, x, kd, sr, S, [])) (hP : P0 + pn kd x ≤ 60) (hP0 : P0 ≤ 60) (vF : Int64) (vE : Int32) (so0 pi0 on0 op0 sn0 st0' vS0 : Nat → Int32) (bh0 : Nat → Int64) (en0 ro0 : Nat → Int32) :
    ∃ (w0 : Int64) (vE' : Int32) (so pi on op sn st : Nat → Int32) (vB : Nat → Int64) (vS : Nat → Int32) (bh' : Nat → Int64) (en' ro' : Nat → Int32), f_M_lay fu (nI r) (nI P0) vF vE vG vL so0 pi0 on0 op0 sn0 st0' vB0 vS0 bh0 en0 ro0 = some (nI (x + 1), nI (P0 + pn kd x), vF ||| w0, vE', so, pi, on, op, sn, st, vB, vS, bh', en', ro') ∧ HBf P0 (pn kd x) vB0 S vB ∧ (∀ i, lb w0 i = true ↔ ∃ y, y < x ∧ kd y = 0 ∧ i = P0 + pn kd y ∧ Ar kd sr y 0) ∧ ((Ar kd sr x 0 ∧ vE' = vE ||| ((1 : Int32) <<< (nI r &&& 31))) ∨ (¬ Ar kd sr x 0 ∧ vE' = vE)) ∧ (∀ p, p < P0 → bh' p = bh0 p ∧ en' p = en0 p ∧ ro' p = ro0 p) ∧ ∀ z, z < x → kd z = 0 → (∀ i, lb (bh' (P0 + pn kd z)) i = true ↔ ∃ y, y < x ∧ kd y = 0 ∧ i = P0 + pn kd y ∧ Ar kd sr y (pn kd z + 1)) ∧ (en' (P0 + pn kd z) = 0 ↔ ¬ Ar kd sr x (pn kd z + 1)) ∧ ro' (P0 + pn kd z) = nI r := by
  have hn := hT.1
  obtain ⟨so, pi, on, op, vB, vS, r1, hWS, hE⟩ := (rdM_ok (vB0 := vB0) hT hP0 (by omega : 200 ≤ fu) so0 pi0 on0 op0 vS0).2 a x kd sr S [] hpar
  have hx : x ≤ 40 := by have := hWS.1; have := hWS.2.1; omega
  have h4 : kd x = 4 := hWS.2.2.1 x (Nat.le_refl _)
  have hk3 := hWS.2.2.2.1
  obtain ⟨sn1, st1, V, g1, g2, g3⟩ := sp_ok (by omega : 200 ≤ fu) hWS hn (by omega) hE (show 0 < x + 1 by omega) sn0 st0'
  obtain ⟨w0, g4, g5⟩ := mrk_ok (by omega : 100 ≤ fu) hx hP hE h4 hk3 g2
  have hAr : ∀ y, y < x + 1 → (V y = true ↔ Ar kd sr y 0) := fun y hy => (g3 y hy).trans (Ar_Rr hWS Src_0 hy).symm
  have ex1 : nI (x + 1) - 1 = nI x := pk_sub (b := 1) (by omega)
  have e40 : (40 : Int32) * nI r = nI (40 * r) := by rw [show (40 : Int32) = nI 40 from rfl, pk_mul]
  have hsnx := g2 x (by omega)
  -- the rest, whatever emptyOf is
  have rest : ∀ vE' : Int32, ∃ (sn st : Nat → Int32) (bh' : Nat → Int64) (en' ro' : Nat → Int32), f_M_lay_J67 (nI r) fu vE' (nI (x + 1)) (nI (P0 + pn kd x)) (vF ||| w0) so pi on op sn1 st1 vB vS bh0 en0 ro0 = some (nI (x + 1), nI (P0 + pn kd x), vF ||| w0, vE', so, pi, on, op, sn, st, vB, vS, bh', en', ro') ∧ (∀ p, p < P0 → bh' p = bh0 p ∧ en' p = en0 p ∧ ro' p = ro0 p) ∧ ∀ z, z < x → kd z = 0 → (∀ i, lb (bh' (P0 + pn kd z)) i = true ↔ ∃ y, y < x ∧ kd y = 0 ∧ i = P0 + pn kd y ∧ Ar kd sr y (pn kd z + 1)) ∧ (en' (P0 + pn kd z) = 0 ↔ ¬ Ar kd sr x (pn kd z + 1)) ∧ ro' (P0 + pn kd z) = nI r := fun vE' => by
    obtain ⟨sn2, st2, bh2, en2, ro2, i1, i2, i3⟩ := lay_loop (by omega : 200 ≤ fu) hWS hn hP hE (nI r) (fun l2_72 v_seen_72 v_stack_72 v_behind_72 v_ends_72 v_ruleOf_72 => some (nI (x + 1), nI (P0 + pn kd x), vF ||| w0, vE', so, pi, on, op, v_seen_72, v_stack_72, vB, vS, v_behind_72, v_ends_72, v_ruleOf_72)) (bh0 := bh0) (en0 := en0) (ro0 := ro0) (x + 1) 0 fu sn1 st1 bh0 en0 ro0 (by omega) (by omega) (fun p hp => ⟨rfl, rfl, rfl⟩) (fun z hz hzk => absurd hzk (Nat.not_lt_zero _))
    exact ⟨sn2, st2, bh2, en2, ro2, i1, i2, i3⟩
  have hw0 : ∀ i, lb w0 i = true ↔ ∃ y, y < x ∧ kd y = 0 ∧ i = P0 + pn kd y ∧ Ar kd sr y 0 := fun i => (g5 i).trans (by
    constructor
    · rintro ⟨w, w1, w2, w3, w4⟩; exact ⟨w, w1, w2, w3, (hAr w (by omega)).mp w4⟩
    · rintro ⟨w, w1, w2, w3, w4⟩; exact ⟨w, w1, w2, w3, (hAr w (by omega)).mpr w4⟩)
  have head : f_M_lay fu (nI r) (nI P0) vF vE vG vL so0 pi0 on0 op0 sn0 st0' vB0 vS0 bh0 en0 ro0 = (if sn1 x = 0 then (f_M_lay_J67 (nI r) fu vE (nI (x + 1)) (nI (P0 + pn kd x)) (vF ||| w0) so pi on op sn1 st1 vB vS bh0 en0 ro0) else (f_M_lay_J67 (nI r) fu (vE ||| ((1 : Int32) <<< (nI r &&& 31))) (nI (x + 1)) (nI (P0 + pn kd x)) (vF ||| w0) so pi on op sn1 st1 vB vS bh0 en0 ro0)) := by
    have g1' : f_M_spread fu 0 (nI (x + 1)) so pi on sn0 st0' vS = some (sn1, st1) := g1
    unfold f_M_lay
    rw [ifT (inB_nI hr (by omega)), e40, nI_clamp (by omega), hlen, r1, ob]
    dsimp only
    rw [g1', ob]
    dsimp only
    rw [g4, ob, ex1, ifT (inB_nI (by omega) (by omega)), nI_clamp (by omega)]
  by_cases q : V x = true
  · obtain ⟨sn2, st2, bh2, en2, ro2, i1, i2, i3⟩ := rest (vE ||| ((1 : Int32) <<< (nI r &&& 31)))
    refine ⟨w0, _, so, pi, on, op, sn2, st2, vB, vS, bh2, en2, ro2, ?_, hE.2.2.2, hw0, Or.inl ⟨(hAr x (by omega)).mp q, rfl⟩, i2, i3⟩
    rw [head, ifF (by rw [hsnx, if_pos q]; decide)]
    exact i1
  · obtain ⟨sn2, st2, bh2, en2, ro2, i1, i2, i3⟩ := rest vE
    refine ⟨w0, _, so, pi, on, op, sn2, st2, vB, vS, bh2, en2, ro2, ?_, hE.2.2.2, hw0, Or.inr ⟨fun z => q ((hAr x (by omega)).mpr z), rfl⟩, i2, i3⟩
    rw [head, ifT (by rw [hsnx, if_neg q])]
    exact i1
end LAY
