/-! one union of rules on both sides: what comes behind, who reads, what is granted -/
def UR (P nr : Nat) (zb R zE : Nat → Int64) (zA zD : Nat → Int32) (vF : Int64) (vE : Int32) (vAl vPe : Nat → Int32) (vB vBh : Nat → Int64) (vEn vRo : Nat → Int32) (ro : Nat → Nat) : Prop :=
  (P ≤ 60) ∧ (nr ≤ 6) ∧ (Sh P (zb 0) vF) ∧ (∀ p, p < P → Sh P (zb (p + 1)) (vBh p)) ∧ (RDok P R vB) ∧ (∀ r, r < nr → lb (zE r) 0 = bt vE r) ∧ (∀ r, r < nr → ∀ p, p < P → (lb (zE r) (p + 1) = true ↔ ¬ vEn p = 0 ∧ ro p = r)) ∧ (∀ p, p < P → vRo p = nI (ro p) ∧ ro p < nr) ∧ (∀ r, r < nr → zA r = (if vAl r = 0 then 0 else vPe r) ∧ zD r = if vAl r = 0 then vPe r else 0)
theorem UR.hP {P nr : Nat} {zb R zE : Nat → Int64} {zA zD : Nat → Int32} {vF : Int64} {vE : Int32} {vAl vPe : Nat → Int32} {vB vBh : Nat → Int64} {vEn vRo : Nat → Int32} {ro : Nat → Nat} (h : UR P nr zb R zE zA zD vF vE vAl vPe vB vBh vEn vRo ro) : P ≤ 60 := h.1
theorem UR.hn {P nr : Nat} {zb R zE : Nat → Int64} {zA zD : Nat → Int32} {vF : Int64} {vE : Int32} {vAl vPe : Nat → Int32} {vB vBh : Nat → Int64} {vEn vRo : Nat → Int32} {ro : Nat → Nat} (h : UR P nr zb R zE zA zD vF vE vAl vPe vB vBh vEn vRo ro) : nr ≤ 6 := h.2.1
theorem UR.b0 {P nr : Nat} {zb R zE : Nat → Int64} {zA zD : Nat → Int32} {vF : Int64} {vE : Int32} {vAl vPe : Nat → Int32} {vB vBh : Nat → Int64} {vEn vRo : Nat → Int32} {ro : Nat → Nat} (h : UR P nr zb R zE zA zD vF vE vAl vPe vB vBh vEn vRo ro) : Sh P (zb 0) vF := h.2.2.1
theorem UR.bp {P nr : Nat} {zb R zE : Nat → Int64} {zA zD : Nat → Int32} {vF : Int64} {vE : Int32} {vAl vPe : Nat → Int32} {vB vBh : Nat → Int64} {vEn vRo : Nat → Int32} {ro : Nat → Nat} (h : UR P nr zb R zE zA zD vF vE vAl vPe vB vBh vEn vRo ro) : ∀ p, p < P → Sh P (zb (p + 1)) (vBh p) := h.2.2.2.1
theorem UR.rd {P nr : Nat} {zb R zE : Nat → Int64} {zA zD : Nat → Int32} {vF : Int64} {vE : Int32} {vAl vPe : Nat → Int32} {vB vBh : Nat → Int64} {vEn vRo : Nat → Int32} {ro : Nat → Nat} (h : UR P nr zb R zE zA zD vF vE vAl vPe vB vBh vEn vRo ro) : RDok P R vB := h.2.2.2.2.1
theorem UR.e0 {P nr : Nat} {zb R zE : Nat → Int64} {zA zD : Nat → Int32} {vF : Int64} {vE : Int32} {vAl vPe : Nat → Int32} {vB vBh : Nat → Int64} {vEn vRo : Nat → Int32} {ro : Nat → Nat} (h : UR P nr zb R zE zA zD vF vE vAl vPe vB vBh vEn vRo ro) : ∀ r, r < nr → lb (zE r) 0 = bt vE r := h.2.2.2.2.2.1
theorem UR.ep {P nr : Nat} {zb R zE : Nat → Int64} {zA zD : Nat → Int32} {vF : Int64} {vE : Int32} {vAl vPe : Nat → Int32} {vB vBh : Nat → Int64} {vEn vRo : Nat → Int32} {ro : Nat → Nat} (h : UR P nr zb R zE zA zD vF vE vAl vPe vB vBh vEn vRo ro) : ∀ r, r < nr → ∀ p, p < P → (lb (zE r) (p + 1) = true ↔ ¬ vEn p = 0 ∧ ro p = r) := h.2.2.2.2.2.2.1
theorem UR.er {P nr : Nat} {zb R zE : Nat → Int64} {zA zD : Nat → Int32} {vF : Int64} {vE : Int32} {vAl vPe : Nat → Int32} {vB vBh : Nat → Int64} {vEn vRo : Nat → Int32} {ro : Nat → Nat} (h : UR P nr zb R zE zA zD vF vE vAl vPe vB vBh vEn vRo ro) : ∀ p, p < P → vRo p = nI (ro p) ∧ ro p < nr := h.2.2.2.2.2.2.2.1
theorem UR.al {P nr : Nat} {zb R zE : Nat → Int64} {zA zD : Nat → Int32} {vF : Int64} {vE : Int32} {vAl vPe : Nat → Int32} {vB vBh : Nat → Int64} {vEn vRo : Nat → Int32} {ro : Nat → Nat} (h : UR P nr zb R zE zA zD vF vE vAl vPe vB vBh vEn vRo ro) : ∀ r, r < nr → zA r = (if vAl r = 0 then 0 else vPe r) ∧ zD r = if vAl r = 0 then vPe r else 0 := h.2.2.2.2.2.2.2.2
theorem bA_loop {zb : Nat → Int64} {x : Int64} (kk : Int32 → Int64 → Option Int64) : ∀ (d p f : Nat) (acc : Int64), p + d = 61 → d < f → ∃ a, f_Union_behindAll_L5 zb x kk f (nI p) acc = kk (nI 61) a ∧ ∀ i, lb a i = true ↔ lb acc i = true ∨ ∃ q, p ≤ q ∧ q < 61 ∧ lb x q = true ∧ lb (zb q) i = true
  | 0, p, f, acc, hd, hf => by
    obtain ⟨f, rfl⟩ : ∃ g, f = g + 1 := ⟨f - 1, by omega⟩
    have : p = 61 := by omega
    subst this
    rw [f_Union_behindAll_L5_s]
    refine ⟨acc, ifT (by decide), fun i => ⟨Or.inl, ?_⟩⟩
    rintro (h | ⟨q, h1, h2, -⟩)
    · exact h
    · omega
  | d + 1, p, f, acc, hd, hf => by
    obtain ⟨f, rfl⟩ : ∃ g, f = g + 1 := ⟨f - 1, by omega⟩
    have q60 : ¬ (60 : Int32) < nI p := Int32.not_lt.mpr ((leL (b := 60) 60 rfl (by omega) (by omega)).mpr (by omega))
    rw [f_Union_behindAll_L5_s, ifF q60]
    by_cases h : lb x p = true
    · obtain ⟨a, g1, g2⟩ := bA_loop kk d (p + 1) f (acc ||| zb p) (by omega) (by omega)
      refine ⟨a, ?_, fun i => (g2 i).trans ?_⟩
      · rw [ifF (fun q => by
          have := (lb_ushr1 x (show p < 64 by omega)).mp ((lg_cmp0 _ _).mp q)
          rw [h] at this; cases this), ifT (inB_nI (by omega) (by omega)), nI_clamp (by omega), nI_1]
        exact g1
      · rw [lb_or, Bool.or_eq_true]
        constructor
        · rintro ((h1 | h1) | ⟨q, h1, h2, h3, h4⟩)
          · exact Or.inl h1
          · exact Or.inr ⟨p, Nat.le_refl _, by omega, h, h1⟩
          · exact Or.inr ⟨q, by omega, h2, h3, h4⟩
        · rintro (h1 | ⟨q, h1, h2, h3, h4⟩)
          · exact Or.inl (Or.inl h1)
          · by_cases z : q = p
            · subst z; exact Or.inl (Or.inr h4)
            · exact Or.inr ⟨q, by omega, h2, h3, h4⟩
    · obtain ⟨a, g1, g2⟩ := bA_loop kk d (p + 1) f acc (by omega) (by omega)
      refine ⟨a, ?_, fun i => (g2 i).trans ?_⟩
      · rw [ifT ((lg_cmp0 _ _).mpr ((lb_ushr1 x (show p < 64 by omega)).mpr (ts_nt h))), nI_1]
        exact g1
      · constructor
        · rintro (h1 | ⟨q, h1, h2, h3, h4⟩)
          · exact Or.inl h1
          · exact Or.inr ⟨q, by omega, h2, h3, h4⟩
        · rintro (h1 | ⟨q, h1, h2, h3, h4⟩)
          · exact Or.inl h1
          · refine Or.inr ⟨q, ?_, h2, h3, h4⟩
            have : q ≠ p := fun z => h (z ▸ h3)
            omega
theorem bA_ok {fu : Nat} (hfu : 100 ≤ fu) (zb : Nat → Int64) (x : Int64) : ∃ a, f_Union_behindAll fu x zb = some a ∧ ∀ i, lb a i = true ↔ ∃ q, q < 61 ∧ lb x q = true ∧ lb (zb q) i = true := by
  obtain ⟨a, h1, h2⟩ := bA_loop (zb := zb) (x := x) (fun l5_5 l3_5 => some l3_5) 61 0 fu 0 (by omega) (by omega)
  refine ⟨a, h1, fun i => (h2 i).trans ?_⟩
  rw [lb_0]
  constructor
  · rintro (h | ⟨q, -, h3⟩)
    · cases h
    · exact ⟨q, h3⟩
  · rintro ⟨q, h3⟩
    exact Or.inr ⟨q, Nat.zero_le _, h3⟩
section LED
variable {P fu : Nat} {vB vBh set : Nat → Int64}
theorem led2 (hP : P ≤ 60) {b : Nat} (hb' : b < 256) {may : Int64} (kk : Int32 → Int64 → Option Int64) : ∀ (d p f : Nat) (acc : Int64), p + d = P → d < f → ∃ y, f_M_led_L71 (nI P) vB (nI b) may kk f (nI p) acc = kk (nI P) y ∧ ∀ i, lb y i = true ↔ lb acc i = true ∨ (p ≤ i ∧ i < P ∧ lb may i = true ∧ hb vB i b = true)
  | 0, p, f, acc, hd, hf => by
    obtain ⟨f, rfl⟩ : ∃ g, f = g + 1 := ⟨f - 1, by omega⟩
    have : p = P := by omega
    subst this
    rw [f_M_led_L71_s, ifT (nI_le (Nat.le_refl _) (by omega))]
    refine ⟨acc, rfl, fun i => ⟨Or.inl, ?_⟩⟩
    rintro (h | ⟨h1, h2, -⟩)
    · exact h
    · omega
  | d + 1, p, f, acc, hd, hf => by
    obtain ⟨f, rfl⟩ : ∃ g, f = g + 1 := ⟨f - 1, by omega⟩
    rw [f_M_led_L71_s, ifF (nI_ge (by omega) (by omega))]
    have hstep : ∀ acc', (∀ i, lb acc' i = true ↔ lb acc i = true ∨ (i = p ∧ lb may p = true ∧ hb vB p b = true)) → ∃ y, f_M_led_L71 (nI P) vB (nI b) may kk f (nI (p + 1)) acc' = kk (nI P) y ∧ ∀ i, lb y i = true ↔ lb acc i = true ∨ (p ≤ i ∧ i < P ∧ lb may i = true ∧ hb vB i b = true) := fun acc' ha => by
      obtain ⟨y, g1, g2⟩ := led2 hP hb' kk d (p + 1) f acc' (by omega) (by omega)
      refine ⟨y, g1, fun i => ((g2 i).trans (or_congr (ha i) Iff.rfl)).trans ?_⟩
      constructor
      · rintro ((h1 | ⟨rfl, h1, h2⟩) | ⟨h1, h2, h3⟩)
        · exact Or.inl h1
        · exact Or.inr ⟨Nat.le_refl _, by omega, h1, h2⟩
        · exact Or.inr ⟨by omega, h2, h3⟩
      · rintro (h1 | ⟨h1, h2, h3, h4⟩)
        · exact Or.inl (Or.inl h1)
        · by_cases z : i = p
          · subst z; exact Or.inl (Or.inr ⟨rfl, h3, h4⟩)
          · exact Or.inr ⟨by omega, h2, h3, h4⟩
    by_cases h : lb may p = true
    · rw [ifT ((lg_cmp0 _ _).mpr ((lb_sshr1 may (show p < 64 by omega)).mpr h)), has_eq (by omega) hb']
      by_cases h2 : hb vB p b = true
      · rw [if_pos h2]
        show ∃ y, (if (1 : Int32) = 0 then f_M_led_L71 (nI P) vB (nI b) may kk f (nI p + 1) acc else f_M_led_L71 (nI P) vB (nI b) may kk f (nI p + 1) (acc ||| jlshl 1 (nI p))) = kk (nI P) y ∧ _
        rw [ifF (by decide), nI_1]
        refine hstep _ (fun i => ?_)
        rw [lb_or, Bool.or_eq_true, lb_bit p (by omega), decide_eq_true_eq]
        exact or_congr Iff.rfl ⟨fun z => ⟨z, h, h2⟩, fun z => z.1⟩
      · rw [if_neg h2]
        show ∃ y, (if (0 : Int32) = 0 then f_M_led_L71 (nI P) vB (nI b) may kk f (nI p + 1) acc else f_M_led_L71 (nI P) vB (nI b) may kk f (nI p + 1) (acc ||| jlshl 1 (nI p))) = kk (nI P) y ∧ _
        rw [ifT rfl, nI_1]
        exact hstep _ (fun i => ⟨Or.inl, fun z => z.elim id (fun z => absurd z.2.2 h2)⟩)
    · rw [ifF (fun q => h ((lb_sshr1 may (show p < 64 by omega)).mp ((lg_cmp0 _ _).mp q)))]
      show ∃ y, f_M_led_L71 (nI P) vB (nI b) may kk f (nI p + 1) acc = kk (nI P) y ∧ _
      rw [nI_1]
      exact hstep _ (fun i => ⟨Or.inl, fun z => z.elim id (fun z => absurd z.2.1 h)⟩)
theorem led1 (hP : P ≤ 60) {s : Nat} (hs1 : 1 ≤ s) (hs : s < 122) (kk : Int32 → Int64 → Option Int64) : ∀ (d p f : Nat) (acc : Int64), p + d = P → d < f → ∃ y, f_M_led_L16 (nI P) vBh set (nI s) kk f (nI p) acc = kk (nI P) y ∧ ∀ i, lb y i = true ↔ lb acc i = true ∨ ∃ q, p ≤ q ∧ q < P ∧ lb (set s) q = true ∧ lb (vBh q) i = true
  | 0, p, f, acc, hd, hf => by
    obtain ⟨f, rfl⟩ : ∃ g, f = g + 1 := ⟨f - 1, by omega⟩
    have : p = P := by omega
    subst this
    rw [f_M_led_L16_s, ifT (nI_le (Nat.le_refl _) (by omega))]
    refine ⟨acc, rfl, fun i => ⟨Or.inl, ?_⟩⟩
    rintro (h | ⟨q, h1, h2, -⟩)
    · exact h
    · omega
  | d + 1, p, f, acc, hd, hf => by
    obtain ⟨f, rfl⟩ : ∃ g, f = g + 1 := ⟨f - 1, by omega⟩
    have qs : ¬ nI s ≤ 0 := nI_ge (a := 0) (by omega) (by omega)
    rw [f_M_led_L16_s, ifF (nI_ge (by omega) (by omega)), ifF qs, ifT (inB_nI hs (by omega)), nI_clamp (n := s) (by omega)]
    by_cases h : lb (set s) p = true
    · obtain ⟨a, g1, g2⟩ := led1 hP hs1 hs kk d (p + 1) f (acc ||| vBh p) (by omega) (by omega)
      refine ⟨a, ?_, fun i => (g2 i).trans ?_⟩
      · rw [ifT ((lg_cmp0 _ _).mpr ((lb_sshr1 _ (show p < 64 by omega)).mpr h)), ifT (inB_nI (by omega) (by omega)), nI_clamp (by omega), nI_1]
        exact g1
      · rw [lb_or, Bool.or_eq_true]
        constructor
        · rintro ((h1 | h1) | ⟨q, h1, h2, h3, h4⟩)
          · exact Or.inl h1
          · exact Or.inr ⟨p, Nat.le_refl _, by omega, h, h1⟩
          · exact Or.inr ⟨q, by omega, h2, h3, h4⟩
        · rintro (h1 | ⟨q, h1, h2, h3, h4⟩)
          · exact Or.inl (Or.inl h1)
          · by_cases z : q = p
            · subst z; exact Or.inl (Or.inr h4)
            · exact Or.inr ⟨q, by omega, h2, h3, h4⟩
    · obtain ⟨a, g1, g2⟩ := led1 hP hs1 hs kk d (p + 1) f acc (by omega) (by omega)
      refine ⟨a, ?_, fun i => (g2 i).trans ?_⟩
      · rw [ifF (fun q => h ((lb_sshr1 _ (show p < 64 by omega)).mp ((lg_cmp0 _ _).mp q))), nI_1]
        exact g1
      · constructor
        · rintro (h1 | ⟨q, h1, h2, h3, h4⟩)
          · exact Or.inl h1
          · exact Or.inr ⟨q, by omega, h2, h3, h4⟩
        · rintro (h1 | ⟨q, h1, h2, h3, h4⟩)
          · exact Or.inl h1
          · refine Or.inr ⟨q, ?_, h2, h3, h4⟩
            have : q ≠ p := fun z => h (z ▸ h3)
            omega
theorem led_0 (hP : P ≤ 60) (hfu : 100 ≤ fu) {b : Nat} (hb' : b < 256) (vF : Int64) : ∃ y, f_M_led fu (nI 0) (nI b) (nI P) vF vB vBh set = some y ∧ ∀ i, lb y i = true ↔ i < P ∧ lb vF i = true ∧ hb vB i b = true := by
  obtain ⟨y, g1, g2⟩ := led2 (vB := vB) hP hb' (may := vF) (fun l7_71 l5_71 => some l5_71) P 0 fu 0 (by omega) (by omega)
  refine ⟨y, ?_, fun i => (g2 i).trans ?_⟩
  · unfold f_M_led f_M_led_J12
    rw [ifT (show nI 0 = 0 from rfl)]
    obtain ⟨f, rfl⟩ : ∃ g, fu = g + 1 := ⟨fu - 1, by omega⟩
    rw [f_M_led_L16_s]
    have e : f_M_led_J65 (nI P) vB (nI b) (f + 1) vF = some y := g1
    by_cases z : nI P ≤ 0
    · rw [ifT z]; exact e
    · rw [ifF z, ifT (by decide)]; exact e
  · rw [lb_0]
    constructor
    · rintro (h | ⟨-, h⟩)
      · cases h
      · exact h
    · exact fun h => Or.inr ⟨Nat.zero_le _, h⟩
theorem led_s (hP : P ≤ 60) (hfu : 100 ≤ fu) {b s : Nat} (hb' : b < 256) (hs1 : 1 ≤ s) (hs : s < 122) (vF : Int64) : ∃ y, f_M_led fu (nI s) (nI b) (nI P) vF vB vBh set = some y ∧ ∀ i, lb y i = true ↔ i < P ∧ (∃ q, q < P ∧ lb (set s) q = true ∧ lb (vBh q) i = true) ∧ hb vB i b = true := by
  obtain ⟨m, m1, m2⟩ := led1 (vBh := vBh) (set := set) hP hs1 hs (fun l5_16 l3_16 => (f_M_led_J65 (nI P) vB (nI b) fu l3_16)) P 0 fu 0 (by omega) (by omega)
  obtain ⟨y, g1, g2⟩ := led2 (vB := vB) hP hb' (may := m) (fun l7_71 l5_71 => some l5_71) P 0 fu 0 (by omega) (by omega)
  refine ⟨y, ?_, fun i => (g2 i).trans ?_⟩
  · unfold f_M_led f_M_led_J12
    rw [ifF (nI_ne0 (by omega) (by omega))]
    exact Eq.trans m1 g1
  · rw [lb_0, m2 i, lb_0]
    constructor
    · rintro (h | ⟨-, h1, (h2 | ⟨q, -, h2⟩), h3⟩)
      · cases h
      · cases h2
      · exact ⟨h1, ⟨q, h2⟩, h3⟩
    · rintro ⟨h1, ⟨q, h2⟩, h3⟩
      exact Or.inr ⟨Nat.zero_le _, h1, Or.inr ⟨q, Nat.zero_le _, h2⟩, h3⟩
end LED
/-! what is granted -/
theorem b_1 : ∀ i, i < 32 → bt 1 i = decide (i = 0) := by decide +kernel
theorem bs1 (x : Int32) {r : Nat} (hr : r < 32) : ((x >>> (nI r &&& 31)) &&& 1) = 1 ↔ bt x r = true := by
  have e : ∀ i, i < 32 → bt ((x >>> (nI r &&& 31)) &&& 1) i = (decide (i = 0) && bt x r) := by
    intro i hi
    rw [b_and, b_1 i hi, b_sshr r hr x hi]
    by_cases h : i = 0
    · subst h; simp [hr]
    · simp [h]
  constructor
  · intro h
    have := e 0 (by omega)
    rw [h, b_1 0 (by omega)] at this
    simpa using this.symm
  · intro h
    apply b_ext
    intro i hi
    rw [e i hi, h, b_1 i hi]
    simp
theorem bbit {n i : Nat} (hn : n < 32) (hi : i < 32) : bt ((1 : Int32) <<< (nI n &&& 31)) i = decide (i = n) := by
  rw [b_shl n hn 1 hi]
  by_cases h : n ≤ i
  · rw [b_1 _ (by omega)]
    by_cases h2 : i = n
    · subst h2; simp
    · simp [h, h2]; omega
  · have : ¬ i = n := by omega
    simp [h, this]
theorem or0 (x : Int32) : x ||| 0 = x := b_ext fun i _ => by rw [b_or, b_0]; simp
section PERM
variable {P nr fu : Nat} {zE : Nat → Int64} {zA zD : Nat → Int32} {vAl vPe vEn vRo : Nat → Int32} {ro : Nat → Nat} {set : Nat → Int64}
theorem per_loop (hn : nr ≤ 6) (hal : ∀ r, r < nr → zA r = (if vAl r = 0 then 0 else vPe r) ∧ zD r = if vAl r = 0 then vPe r else 0) {x : Int64} {m : Int32} (hm : ∀ r, r < nr → (bt m r = true ↔ ¬ (x &&& zE r) = 0)) (kc km : Int32 → Int32 → Int32 → Option Int32) : ∀ (d k f f' : Nat) (de al : Int32), k + d = nr → d < f → d < f' → ∃ de' al', f_Union_permissionsOf_L8 (nI nr) zE zA zD x kc f (nI k) de al = kc (nI nr) de' al' ∧ f_M_permits_L88 (nI nr) vAl vPe m km f' (nI k) de al = km (nI nr) de' al'
  | 0, k, f, f', de, al, hd, hf, hf' => by
    obtain ⟨f, rfl⟩ : ∃ g, f = g + 1 := ⟨f - 1, by omega⟩
    obtain ⟨f', rfl⟩ : ∃ g, f' = g + 1 := ⟨f' - 1, by omega⟩
    have : k = nr := by omega
    subst this
    rw [f_Union_permissionsOf_L8_s, f_M_permits_L88_s]
    exact ⟨de, al, ifT (nI_le (Nat.le_refl _) (by omega)), ifT (nI_le (Nat.le_refl _) (by omega))⟩
  | d + 1, k, f, f', de, al, hd, hf, hf' => by
    obtain ⟨f, rfl⟩ : ∃ g, f = g + 1 := ⟨f - 1, by omega⟩
    obtain ⟨f', rfl⟩ : ∃ g, f' = g + 1 := ⟨f' - 1, by omega⟩
    have hk : inB (nI k) 6 = true := inB_nI (by omega) (by omega)
    rw [f_Union_permissionsOf_L8_s, f_M_permits_L88_s, ifF (nI_ge (by omega) (by omega)), ifF (nI_ge (by omega) (by omega)), ifT hk]
    by_cases h : bt m k = true
    · have hx := (hm k (by omega)).mp h
      rw [ifF (fun q => by rw [nI_clamp (by omega)] at q; exact hx ((lg_cmp0 _ _).mp q)), ifT hk, ifT hk, ifT ((bs1 m (by omega)).mpr h), nI_clamp (by omega), nI_1]
      obtain ⟨h1, h2⟩ := hal k (by omega)
      by_cases ha : vAl k = 0
      · obtain ⟨de', al', g1, g2⟩ := per_loop hn hal hm kc km d (k + 1) f f' (de ||| vPe k) al (by omega) (by omega) (by omega)
        refine ⟨de', al', ?_, ?_⟩
        · rw [h1, h2, if_pos ha, if_pos ha, or0]; exact g1
        · unfold f_M_permits_J113 f_M_permits_J142 f_M_permits_J143
          rw [ifF (by decide), ifT hk, nI_clamp (by omega), ifT ha, ifF (by decide), ifT hk, ifT ha, ifT hk]
          show f_M_permits_L88 (nI nr) vAl vPe m km f' (nI k + 1) (de ||| vPe k) al = _
          rw [nI_1]; exact g2
      · obtain ⟨de', al', g1, g2⟩ := per_loop hn hal hm kc km d (k + 1) f f' de (al ||| vPe k) (by omega) (by omega) (by omega)
        refine ⟨de', al', ?_, ?_⟩
        · rw [h1, h2, if_neg ha, if_neg ha, or0]; exact g1
        · unfold f_M_permits_J113
          rw [ifF (by decide), ifT hk, nI_clamp (by omega), ifF ha, ifT hk]
          unfold f_M_permits_J143
          rw [ifF (by decide), ifT hk, nI_clamp (by omega), ifF ha]
          show f_M_permits_L88 (nI nr) vAl vPe m km f' (nI k + 1) de (al ||| vPe k) = _
          rw [nI_1]; exact g2
    · have hx : (x &&& zE k) = 0 := Classical.byContradiction fun q => h ((hm k (by omega)).mpr q)
      rw [ifT (by rw [nI_clamp (by omega)]; exact (lg_cmp0 _ _).mpr hx), ifF (fun q => h ((bs1 m (by omega)).mp q)), nI_1]
      obtain ⟨de', al', g1, g2⟩ := per_loop hn hal hm kc km d (k + 1) f f' de al (by omega) (by omega) (by omega)
      refine ⟨de', al', g1, ?_⟩
      unfold f_M_permits_J113 f_M_permits_J142 f_M_permits_J143
      rw [ifT rfl, ifT rfl]
      show f_M_permits_L88 (nI nr) vAl vPe m km f' (nI k + 1) de al = _
      rw [nI_1]; exact g2
theorem mat_loop (hP : P ≤ 60) (hn : nr ≤ 6) (her : ∀ p, p < P → vRo p = nI (ro p) ∧ ro p < nr) {s : Nat} (hs1 : 1 ≤ s) (hs : s < 122) (kk : Int32 → Int32 → Option Int32) : ∀ (d p f : Nat) (acc : Int32), p + d = P → d < f → ∃ m, f_M_permits_L21 (nI P) vEn vRo set (nI s) kk f (nI p) acc = kk (nI P) m ∧ ∀ r, r < 32 → (bt m r = true ↔ bt acc r = true ∨ ∃ q, p ≤ q ∧ q < P ∧ ¬ vEn q = 0 ∧ lb (set s) q = true ∧ ro q = r)
  | 0, p, f, acc, hd, hf => by
    obtain ⟨f, rfl⟩ : ∃ g, f = g + 1 := ⟨f - 1, by omega⟩
    have : p = P := by omega
    subst this
    rw [f_M_permits_L21_s]
    refine ⟨acc, ifT (nI_le (Nat.le_refl _) (by omega)), fun r _ => ⟨Or.inl, ?_⟩⟩
    rintro (h | ⟨q, h1, h2, -⟩)
    · exact h
    · omega
  | d + 1, p, f, acc, hd, hf => by
    obtain ⟨f, rfl⟩ : ∃ g, f = g + 1 := ⟨f - 1, by omega⟩
    have qs : ¬ nI s ≤ 0 := nI_ge (a := 0) (by omega) (by omega)
    have hp60 : inB (nI p) 60 = true := inB_nI (by omega) (by omega)
    rw [f_M_permits_L21_s, ifF (nI_ge (by omega) (by omega)), ifF qs, ifT hp60, nI_clamp (n := p) (by omega)]
    have skip : ¬ (¬ vEn p = 0 ∧ lb (set s) p = true) → ∃ m, f_M_permits_L21 (nI P) vEn vRo set (nI s) kk f (nI (p + 1)) acc = kk (nI P) m ∧ ∀ r, r < 32 → (bt m r = true ↔ bt acc r = true ∨ ∃ q, p ≤ q ∧ q < P ∧ ¬ vEn q = 0 ∧ lb (set s) q = true ∧ ro q = r) := fun hno => by
      obtain ⟨m, g1, g2⟩ := mat_loop hP hn her hs1 hs kk d (p + 1) f acc (by omega) (by omega)
      refine ⟨m, g1, fun r hr => (g2 r hr).trans ?_⟩
      constructor
      · rintro (h1 | ⟨q, h1, h2⟩)
        · exact Or.inl h1
        · exact Or.inr ⟨q, by omega, h2⟩
      · rintro (h1 | ⟨q, h1, h2, h3, h4, h5⟩)
        · exact Or.inl h1
        · refine Or.inr ⟨q, ?_, h2, h3, h4, h5⟩
          have : q ≠ p := fun z => hno ⟨z ▸ h3, z ▸ h4⟩
          omega
    by_cases h0 : vEn p = 0
    · rw [ifT h0]
      show ∃ m, f_M_permits_L21 (nI P) vEn vRo set (nI s) kk f (nI p + 1) acc = kk (nI P) m ∧ _
      rw [nI_1]
      exact skip (fun q => q.1 h0)
    · rw [ifF h0, ifT (inB_nI hs (by omega)), nI_clamp (n := s) (by omega)]
      by_cases h : lb (set s) p = true
      · obtain ⟨e1, e2⟩ := her p (by omega)
        obtain ⟨m, g1, g2⟩ := mat_loop hP hn her hs1 hs kk d (p + 1) f (acc ||| ((1 : Int32) <<< (nI (ro p) &&& 31))) (by omega) (by omega)
        refine ⟨m, ?_, fun r hr => (g2 r hr).trans ?_⟩
        · rw [ifT ((lg_cmp0 _ _).mpr ((lb_sshr1 _ (show p < 64 by omega)).mpr h)), ifT hp60, e1]
          show f_M_permits_L21 (nI P) vEn vRo set (nI s) kk f (nI p + 1) (acc ||| ((1 : Int32) <<< (nI (ro p) &&& 31))) = _
          rw [nI_1]; exact g1
        · rw [b_or, Bool.or_eq_true, bbit (by omega) hr, decide_eq_true_eq]
          constructor
          · rintro ((h1 | h1) | ⟨q, h1, h2⟩)
            · exact Or.inl h1
            · exact Or.inr ⟨p, Nat.le_refl _, by omega, h0, h, h1.symm⟩
            · exact Or.inr ⟨q, by omega, h2⟩
          · rintro (h1 | ⟨q, h1, h2, h3, h4, h5⟩)
            · exact Or.inl (Or.inl h1)
            · by_cases z : q = p
              · subst z; exact Or.inl (Or.inr h5.symm)
              · exact Or.inr ⟨q, by omega, h2, h3, h4, h5⟩
      · rw [ifF (fun q => h ((lb_sshr1 _ (show p < 64 by omega)).mp ((lg_cmp0 _ _).mp q)))]
        show ∃ m, f_M_permits_L21 (nI P) vEn vRo set (nI s) kk f (nI p + 1) acc = kk (nI P) m ∧ _
        rw [nI_1]
        exact skip (fun q => h q.2)
theorem per_ok (hfu : 100 ≤ fu) (hn : nr ≤ 6) (hal : ∀ r, r < nr → zA r = (if vAl r = 0 then 0 else vPe r) ∧ zD r = if vAl r = 0 then vPe r else 0) {x : Int64} {m : Int32} (hm : ∀ r, r < nr → (bt m r = true ↔ ¬ (x &&& zE r) = 0)) : ∃ v, f_Union_permissionsOf fu x (nI nr) zE zA zD = some v ∧ f_M_permits_J85 (nI nr) vAl vPe fu m 0 0 = some v := by
  obtain ⟨de, al, g1, g2⟩ := per_loop hn hal hm (fun l5_8 l4_8 l3_8 => some (l3_8 &&& (l4_8 ^^^ (-1 : Int32)))) (fun l5_88 l3_88 l2_88 => some (l2_88 &&& (l3_88 ^^^ (-1 : Int32)))) nr 0 fu fu 0 0 (by omega) (by omega) (by omega)
  exact ⟨_, g1, g2⟩
end PERM
/-- a union on both sides gives the same sets -/
theorem UR.ag {P nr fu C : Nat} {zb R zE : Nat → Int64} {zA zD : Nat → Int32} {vF : Int64} {vE : Int32} {vAl vPe : Nat → Int32} {vB vBh : Nat → Int64} {vEn vRo : Nat → Int32} {ro : Nat → Nat} (h : UR P nr zb R zE zA zD vF vE vAl vPe vB vBh vEn vRo ro) (hfu : 300 ≤ fu) {rc : Nat → Int64} {vEx : Nat → Int32} {rep : Nat → Nat} (hc : ∀ c, c < C → vEx c = nI (rep c) ∧ rep c < 256 ∧ rc c = R (sy (rep c))) : AG fu P C zb rc zE (nI nr) zA zD (nI nr) (nI P) vF vE vAl vPe vB vBh vEn vRo vEx := by
  have hP := h.hP
  have hn := h.hn
  have mk : ∀ (a y : Int64) (b : Nat), b < 256 → (∀ p, p < P → (lb y p = true ↔ lb a (p + 1) = true ∧ hb vB p b = true)) → (∀ p, P ≤ p → lb y p = false) → Sh P (a &&& R (sy b)) y := fun a y b hb' h1 h2 => by
    refine ⟨?_, fun p hp => ?_, fun p hp _ => h2 p hp, fun p hp hp' => ?_⟩
    · rw [lb_and, (h.rd.1 _ (sy_lt b)).1, Bool.and_false]
    · rw [lb_and, ← h.rd.2 p hp b hb', Bool.eq_iff_iff, Bool.and_eq_true]
      exact (h1 p hp).symm
    · rw [lb_and, (h.rd.1 _ (sy_lt b)).2 p hp hp', Bool.and_false]
  refine ⟨fun set => ?_, fun set s x hs1 hs hSh => ?_, fun set c hcc => ?_, fun set s x c hcc hs1 hs hSh => ?_, fun x => ?_⟩
  · have hm : ∀ r, r < nr → (bt vE r = true ↔ ¬ ((1 : Int64) &&& zE r) = 0) := fun r hr => by
      rw [and_ne0, ← h.e0 r hr]
      constructor
      · intro q; exact ⟨0, by omega, by rw [lb_1]; rfl, q⟩
      · rintro ⟨i, hi, q1, q2⟩
        rw [lb_1, decide_eq_true_eq] at q1
        subst q1; exact q2
    obtain ⟨v, v1, v2⟩ := per_ok (by omega : 100 ≤ fu) hn h.al hm
    refine ⟨v, v1, ?_⟩
    unfold f_M_permits f_M_permits_J16
    rw [ifT (show nI 0 = 0 from rfl)]
    obtain ⟨f, rfl⟩ : ∃ g, fu = g + 1 := ⟨fu - 1, by omega⟩
    rw [f_M_permits_L21_s]
    by_cases z : nI P ≤ 0
    · rw [ifT z]; exact v2
    · rw [ifF z, ifT (by decide)]; exact v2
  · obtain ⟨m, m1, m2⟩ := mat_loop (vEn := vEn) (set := set) hP hn h.er hs1 hs (fun l5_21 l4_21 => (f_M_permits_J85 (nI nr) vAl vPe fu l4_21 0 0)) P 0 fu 0 (by omega) (by omega)
    have hm : ∀ r, r < nr → (bt m r = true ↔ ¬ (x &&& zE r) = 0) := fun r hr => by
      rw [and_ne0, m2 r (by omega), b_0]
      constructor
      · rintro (q | ⟨q, -, q1, q2, q3, q4⟩)
        · cases q
        · exact ⟨q + 1, by omega, by rw [hSh.2.1 q q1]; exact q3, (h.ep r hr q q1).mpr ⟨q2, q4⟩⟩
      · rintro ⟨i, hi, q1, q2⟩
        cases i with
        | zero => rw [hSh.1] at q1; cases q1
        | succ q =>
          by_cases z : q < P
          · have := (h.ep r hr q z).mp q2
            exact Or.inr ⟨q, Nat.zero_le _, z, this.1, by rw [← hSh.2.1 q z]; exact q1, this.2⟩
          · rw [hSh.2.2.2 (q + 1) (by omega) hi] at q1; cases q1
    obtain ⟨v, v1, v2⟩ := per_ok (by omega : 100 ≤ fu) hn h.al hm
    refine ⟨v, v1, ?_⟩
    unfold f_M_permits f_M_permits_J16
    rw [ifF (nI_ne0 (by omega) (by omega))]
    exact Eq.trans m1 v2
  · obtain ⟨c1, c2, c3⟩ := hc c hcc
    obtain ⟨a, a1, a2⟩ := bA_ok (by omega : 100 ≤ fu) zb 1
    obtain ⟨y, y1, y2⟩ := led_0 (vB := vB) (vBh := vBh) (set := set) hP (by omega : 100 ≤ fu) c2 vF
    refine ⟨a, y, a1, by rw [c1]; exact y1, ?_⟩
    rw [c3]
    refine mk a y (rep c) c2 (fun p hp => ?_) (fun p hp => ?_)
    · rw [y2 p, a2 (p + 1), ← h.b0.2.1 p hp]
      constructor
      · rintro ⟨-, q1, q2⟩
        exact ⟨⟨0, by omega, by rw [lb_1]; rfl, q1⟩, q2⟩
      · rintro ⟨⟨q, -, q1, q2⟩, q3⟩
        rw [lb_1, decide_eq_true_eq] at q1
        subst q1
        exact ⟨hp, q2, q3⟩
    · exact ts_nt (fun q => by have := ((y2 p).mp q).1; omega)
  · obtain ⟨c1, c2, c3⟩ := hc c hcc
    obtain ⟨a, a1, a2⟩ := bA_ok (by omega : 100 ≤ fu) zb x
    obtain ⟨y, y1, y2⟩ := led_s (vB := vB) (vBh := vBh) (set := set) hP (by omega : 100 ≤ fu) c2 hs1 hs vF
    refine ⟨a, y, a1, by rw [c1]; exact y1, ?_⟩
    rw [c3]
    refine mk a y (rep c) c2 (fun p hp => ?_) (fun p hp => ?_)
    · rw [y2 p, a2 (p + 1)]
      constructor
      · rintro ⟨-, ⟨q, q1, q2, q3⟩, q4⟩
        exact ⟨⟨q + 1, by omega, by rw [hSh.2.1 q q1]; exact q2, by rw [(h.bp q q1).2.1 p hp]; exact q3⟩, q4⟩
      · rintro ⟨⟨q, q1, q2, q3⟩, q4⟩
        cases q with
        | zero => rw [hSh.1] at q2; cases q2
        | succ q =>
          by_cases z : q < P
          · exact ⟨hp, ⟨q, z, by rw [← hSh.2.1 q z]; exact q2, by rw [← (h.bp q z).2.1 p hp]; exact q3⟩, q4⟩
          · rw [hSh.2.2.2 (q + 1) (by omega) (by omega)] at q2; cases q2
    · exact ts_nt (fun q => by have := ((y2 p).mp q).1; omega)
  · obtain ⟨a, a1, -⟩ := bA_ok (by omega : 100 ≤ fu) zb x
    exact ⟨a, a1⟩
