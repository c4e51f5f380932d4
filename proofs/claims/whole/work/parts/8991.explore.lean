/-! the sets: both find the same, in the same order -/
/-- pieces from bit 1 on against pieces from bit 0 on -/
def Sh (P : Nat) (x y : Int64) : Prop := lb x 0 = false ∧ (∀ p, p < P → lb x (p + 1) = lb y p) ∧ (∀ p, P ≤ p → p < 64 → lb y p = false) ∧ (∀ p, P + 1 ≤ p → p < 64 → lb x p = false)
theorem Sh.eq {P : Nat} (hP : P ≤ 60) {x x' y y' : Int64} (h : Sh P x y) (h' : Sh P x' y') : x = x' ↔ y = y' := by
  constructor
  · intro e
    subst e
    refine lb_ext fun i hi => ?_
    by_cases z : i < P
    · rw [← h.2.1 i z, ← h'.2.1 i z]
    · rw [h.2.2.1 i (by omega) hi, h'.2.2.1 i (by omega) hi]
  · intro e
    subst e
    refine lb_ext fun i hi => ?_
    cases i with
    | zero => rw [h.1, h'.1]
    | succ j =>
      by_cases z : j < P
      · rw [h.2.1 j z, h'.2.1 j z]
      · rw [h.2.2.2 (j + 1) (by omega) hi, h'.2.2.2 (j + 1) (by omega) hi]
theorem Sh.ne1 {P : Nat} {x y : Int64} (h : Sh P x y) : ¬ (1 : Int64) = x := fun e => by
  have := h.1
  rw [← e, lb_1] at this
  simp at this
def AG (fu P C : Nat) (zb rc zE : Nat → Int64) (zR : Int32) (zA zD : Nat → Int32) (vR vP : Int32) (vF : Int64) (vE : Int32) (vAl vPe : Nat → Int32) (vB vBh : Nat → Int64) (vEn vRo vEx : Nat → Int32) : Prop :=
  (∀ set, ∃ v, f_Union_permissionsOf fu 1 zR zE zA zD = some v ∧ f_M_permits fu (nI 0) vR vP vE vAl vPe vEn vRo set = some v) ∧ (∀ (set : Nat → Int64) s x, 1 ≤ s → s < 122 → Sh P x (set s) → ∃ v, f_Union_permissionsOf fu x zR zE zA zD = some v ∧ f_M_permits fu (nI s) vR vP vE vAl vPe vEn vRo set = some v) ∧ (∀ set c, c < C → ∃ a y, f_Union_behindAll fu 1 zb = some a ∧ f_M_led fu (nI 0) (vEx c) vP vF vB vBh set = some y ∧ Sh P (a &&& rc c) y) ∧ (∀ (set : Nat → Int64) s x c, c < C → 1 ≤ s → s < 122 → Sh P x (set s) → ∃ a y, f_Union_behindAll fu x zb = some a ∧ f_M_led fu (nI s) (vEx c) vP vF vB vBh set = some y ∧ Sh P (a &&& rc c) y) ∧ (∀ x, ∃ a, f_Union_behindAll fu x zb = some a)
theorem AG.p0 {fu P C : Nat} {zb rc zE : Nat → Int64} {zR : Int32} {zA zD : Nat → Int32} {vR vP : Int32} {vF : Int64} {vE : Int32} {vAl vPe : Nat → Int32} {vB vBh : Nat → Int64} {vEn vRo vEx : Nat → Int32} (h : AG fu P C zb rc zE zR zA zD vR vP vF vE vAl vPe vB vBh vEn vRo vEx) : ∀ set, ∃ v, f_Union_permissionsOf fu 1 zR zE zA zD = some v ∧ f_M_permits fu (nI 0) vR vP vE vAl vPe vEn vRo set = some v := h.1
theorem AG.ps {fu P C : Nat} {zb rc zE : Nat → Int64} {zR : Int32} {zA zD : Nat → Int32} {vR vP : Int32} {vF : Int64} {vE : Int32} {vAl vPe : Nat → Int32} {vB vBh : Nat → Int64} {vEn vRo vEx : Nat → Int32} (h : AG fu P C zb rc zE zR zA zD vR vP vF vE vAl vPe vB vBh vEn vRo vEx) : ∀ (set : Nat → Int64) s x, 1 ≤ s → s < 122 → Sh P x (set s) → ∃ v, f_Union_permissionsOf fu x zR zE zA zD = some v ∧ f_M_permits fu (nI s) vR vP vE vAl vPe vEn vRo set = some v := h.2.1
theorem AG.l0 {fu P C : Nat} {zb rc zE : Nat → Int64} {zR : Int32} {zA zD : Nat → Int32} {vR vP : Int32} {vF : Int64} {vE : Int32} {vAl vPe : Nat → Int32} {vB vBh : Nat → Int64} {vEn vRo vEx : Nat → Int32} (h : AG fu P C zb rc zE zR zA zD vR vP vF vE vAl vPe vB vBh vEn vRo vEx) : ∀ set c, c < C → ∃ a y, f_Union_behindAll fu 1 zb = some a ∧ f_M_led fu (nI 0) (vEx c) vP vF vB vBh set = some y ∧ Sh P (a &&& rc c) y := h.2.2.1
theorem AG.ls {fu P C : Nat} {zb rc zE : Nat → Int64} {zR : Int32} {zA zD : Nat → Int32} {vR vP : Int32} {vF : Int64} {vE : Int32} {vAl vPe : Nat → Int32} {vB vBh : Nat → Int64} {vEn vRo vEx : Nat → Int32} (h : AG fu P C zb rc zE zR zA zD vR vP vF vE vAl vPe vB vBh vEn vRo vEx) : ∀ (set : Nat → Int64) s x c, c < C → 1 ≤ s → s < 122 → Sh P x (set s) → ∃ a y, f_Union_behindAll fu x zb = some a ∧ f_M_led fu (nI s) (vEx c) vP vF vB vBh set = some y ∧ Sh P (a &&& rc c) y := h.2.2.2.1
theorem AG.ba {fu P C : Nat} {zb rc zE : Nat → Int64} {zR : Int32} {zA zD : Nat → Int32} {vR vP : Int32} {vF : Int64} {vE : Int32} {vAl vPe : Nat → Int32} {vB vBh : Nat → Int64} {vEn vRo vEx : Nat → Int32} (h : AG fu P C zb rc zE zR zA zD vR vP vF vE vAl vPe vB vBh vEn vRo vEx) : ∀ x, ∃ a, f_Union_behindAll fu x zb = some a := h.2.2.2.2
section EXP
variable {fu P C cap : Nat} {zb rc zE : Nat → Int64} {zR : Int32} {zA zD : Nat → Int32} {vR vP : Int32} {vF : Int64} {vE : Int32} {vAl vPe : Nat → Int32} {vB vBh : Nat → Int64} {vEn vRo vEx : Nat → Int32}
def EX (fu P : Nat) (zE : Nat → Int64) (zR : Int32) (zA zD : Nat → Int32) (n : Nat) (F : Nat → Int64) (sl : Nat → Int32) (set : Nat → Int64) (gv : Nat → Int32) : Prop :=
  HS n F sl ∧ 1 ≤ n ∧ F 0 = 1 ∧ (∀ j, 1 ≤ j → j < n → Sh P (F j) (set j)) ∧ ∀ j, j < n → f_Union_permissionsOf fu (F j) zR zE zA zD = some (gv j)
def LD (C n i c : Nat) (lc lm : Nat → Int32) : Prop := ∀ j c', c' < C → (j < i ∨ j = i ∧ c' < c) → ∃ v, v < n ∧ lc (j * 95 + c') = nI v ∧ lm (96 * j + c') = nI v
theorem numM_loop {n : Nat} (hn : n ≤ 121) {set : Nat → Int64} {y : Int64} (k0 k1 : Int32 → Option (Int32 × Int32 × (Nat → Int64) × (Nat → Int32))) {u : Nat} (hu : u ≤ n) : ∀ (d t f : Nat), t + d = u → d < f → (∀ j, t ≤ j → j < u → ¬ set j = y) →
    (u = n → f_M_numbered_L2 (nI n) set y k0 k1 f (nI t) = k0 (nI n)) ∧ (u < n → set u = y → f_M_numbered_L2 (nI n) set y k0 k1 f (nI t) = k1 (nI u))
  | 0, t, f, ht, hf, hq => by
    obtain ⟨f, rfl⟩ : ∃ g, f = g + 1 := ⟨f - 1, by omega⟩
    have : t = u := by omega
    subst this
    rw [f_M_numbered_L2_s]
    constructor
    · intro e
      subst e
      exact ifT (nI_le (Nat.le_refl _) (by omega))
    · intro hlt e
      rw [ifF (nI_ge hlt (by omega)), ifT (inB_nI (by omega) (by omega)), nI_clamp (by omega), ifT ((lg_cmp0 _ _).mpr e)]
  | d + 1, t, f, ht, hf, hq => by
    obtain ⟨f, rfl⟩ : ∃ g, f = g + 1 := ⟨f - 1, by omega⟩
    have e : f_M_numbered_L2 (nI n) set y k0 k1 (f + 1) (nI t) = f_M_numbered_L2 (nI n) set y k0 k1 f (nI (t + 1)) := by
      rw [f_M_numbered_L2_s, ifF (nI_ge (by omega) (by omega)), ifT (inB_nI (by omega) (by omega)), nI_clamp (by omega), ifF (fun q => hq t (Nat.le_refl _) (by omega) ((lg_cmp0 _ _).mp q)), nI_1]
    rw [e]
    exact numM_loop hn k0 k1 hu d (t + 1) f (by omega) (by omega) (fun j a b => hq j (by omega) b)
/-- one set more -/
theorem ex_one (hA : AG fu P C zb rc zE zR zA zD vR vP vF vE vAl vPe vB vBh vEn vRo vEx) (hP : P ≤ 60) (hfu : 300 ≤ fu) (hcap : cap ≤ 120) {n : Nat} (hn : n ≤ cap) {F set : Nat → Int64} {sl gv : Nat → Int32} (hE : EX fu P zE zR zA zD n F sl set gv) {x y : Int64} (hS : Sh P x y) :
    (∃ (n' : Nat) (F' : Nat → Int64) (sl' : Nat → Int32) (set' : Nat → Int64) (gv' : Nat → Int32) (v : Nat), n ≤ n' ∧ n' ≤ cap ∧ v < n' ∧ EX fu P zE zR zA zD n' F' sl' set' gv' ∧ (∀ j, j < n → F' j = F j ∧ set' j = set j) ∧ f_Graph_numberOf fu x (nI cap) (nI n) F sl = some (nI v, nI n', F', sl') ∧ f_M_numbered fu y vR vP vE (nI n) vAl vPe vEn vRo set gv = some (nI v, nI n', set', gv')) ∨
    (f_Graph_numberOf fu x (nI cap) (nI n) F sl = some (-1, nI n, F, sl) ∧ n = cap ∧ ∃ (set' : Nat → Int64) (gv' : Nat → Int32), f_M_numbered fu y vR vP vE (nI n) vAl vPe vEn vRo set gv = some (nI n, nI (n + 1), set', gv')) := by
  obtain ⟨hH, h1, h0, hSh, hpm⟩ := hE
  have hone : nI n + 1 - 1 = nI n := by rw [nI_1]; exact pk_sub (b := 1) (by omega)
  by_cases q : ∃ i, i < n ∧ F i = x
  · obtain ⟨i, hi, e⟩ := q
    have hi1 : 1 ≤ i := by
      refine Nat.pos_of_ne_zero fun z => ?_
      subst z
      exact hS.ne1 (h0.symm.trans e)
    refine Or.inl ⟨n, F, sl, set, gv, i, Nat.le_refl _, hn, hi, ⟨hH, h1, h0, hSh, hpm⟩, fun _ _ => ⟨rfl, rfl⟩, num_old (by omega) hH hfu _ hi e, ?_⟩
    have hy : set i = y := (Sh.eq hP (hSh i hi1 hi) hS).mp e
    have hno : ∀ j, 1 ≤ j → j < i → ¬ set j = y := fun j a b c => by
      have e1 : F j = x := (Sh.eq hP (hSh j a (by omega)) hS).mpr c
      have := hH.1 j i (by omega) hi (e1.trans e.symm)
      omega
    unfold f_M_numbered
    exact (numM_loop (by omega) _ _ (by omega) (i - 1) 1 fu (by omega) (by omega) hno).2 hi hy
  · have hno : ∀ i, i < n → ¬ F i = x := fun i a b => q ⟨i, a, b⟩
    have hnoy : ∀ j, 1 ≤ j → j < n → ¬ set j = y := fun j a b c => hno j b ((Sh.eq hP (hSh j a b) hS).mpr c)
    have hSn : Sh P x (vp_updL set n y n) := by rw [pk_uLs]; exact hS
    obtain ⟨v, hv1, hv2⟩ := hA.ps (vp_updL set n y) n x h1 (by omega) hSn
    have hM : f_M_numbered fu y vR vP vE (nI n) vAl vPe vEn vRo set gv = some (nI n, nI (n + 1), vp_updL set n y, upd gv n v) := by
      unfold f_M_numbered
      refine Eq.trans ((numM_loop (by omega) _ _ (Nat.le_refl n) (n - 1) 1 fu (by omega) (by omega) hnoy).1 rfl) ?_
      show (if inB (nI n) 122 = true then (Option.bind (f_M_permits fu (nI n + 1 - 1) vR vP vE vAl vPe vEn vRo (vp_updL set (nI n).toNatClampNeg y)) fun r5 => (if inB (nI n + 1 - 1) 122 = true then some (nI n + 1 - 1, nI n + 1, vp_updL set (nI n).toNatClampNeg y, upd gv (nI n + 1 - 1).toNatClampNeg r5) else none)) else none) = _
      rw [ifT (inB_nI (by omega) (by omega)), hone, nI_clamp (by omega), hv2]
      show (if inB (nI n) 122 = true then some (nI n, nI n + 1, vp_updL set n y, upd gv n v) else none) = _
      rw [ifT (inB_nI (by omega) (by omega)), nI_1]
    obtain ⟨ha, hb⟩ := num_new (n := n) (x := x) (cap := cap) (by omega) hH hfu hcap hno
    by_cases hlt : n < cap
    · obtain ⟨sl', e1, e2⟩ := ha hlt
      refine Or.inl ⟨n + 1, vp_updL F n x, sl', vp_updL set n y, upd gv n v, n, by omega, by omega, by omega, ⟨e2, by omega, ?_, ?_, ?_⟩, fun j hj => ⟨pk_uLn (by omega), pk_uLn (by omega)⟩, e1, hM⟩
      · rw [pk_uLn (by omega)]; exact h0
      · intro j a b
        by_cases z : j = n
        · subst z; rw [pk_uLs, pk_uLs]; exact hS
        · rw [pk_uLn z, pk_uLn z]; exact hSh j a (by omega)
      · intro j a
        by_cases z : j = n
        · subst z; rw [pk_uLs, pk_us]; exact hv1
        · rw [pk_uLn z, pk_un z]; exact hpm j (by omega)
    · exact Or.inr ⟨hb (by omega), by omega, _, _, hM⟩
/-- all columns of one set -/
theorem ex_in (hA : AG fu P C zb rc zE zR zA zD vR vP vF vE vAl vPe vB vBh vEn vRo vEx) (hP : P ≤ 60) (hC : C ≤ 95) (hfu : 300 ≤ fu) (hcap : cap ≤ 120) {i : Nat} {a x : Int64} (ha : f_Union_behindAll fu x zb = some a) (k0 k1 : Int32 → Int32 → (Nat → Int64) → (Nat → Int32) → (Nat → Int32) → Option (Int32 × Int32 × (Nat → Int64) × (Nat → Int32) × (Nat → Int32))) (m0 m1 : Int32 → Int32 → (Nat → Int64) → (Nat → Int32) → (Nat → Int32) → Option (Int32 × Int32 × (Nat → Int64) × (Nat → Int32) × (Nat → Int32))) : ∀ (d c f f' n : Nat) (F set : Nat → Int64) (sl gv lc lm : Nat → Int32), c + d = C → d < f → d < f' → i < n → n ≤ cap → F i = x → EX fu P zE zR zA zD n F sl set gv → LD C n i c lc lm →
    (∃ (n' : Nat) (F' set' : Nat → Int64) (sl' gv' lc' lm' : Nat → Int32), n ≤ n' ∧ n' ≤ cap ∧ EX fu P zE zR zA zD n' F' sl' set' gv' ∧ LD C n' (i + 1) 0 lc' lm' ∧ f_Graph_exploreFrom_L17 (nI C) rc (nI i) (nI cap) a fu k0 k1 f (nI c) (nI n) F lc sl = k0 (nI C) (nI n') F' lc' sl' ∧ f_M_findSets_L28 vR vP vF vE (nI C) vAl vPe vB vBh vEn vRo vEx (nI cap) (nI i) fu m0 m1 f' (nI c) (nI n) set gv lm = m0 (nI C) (nI n') set' gv' lm') ∨
    ((∃ c1 n1 F1 lc1 sl1, f_Graph_exploreFrom_L17 (nI C) rc (nI i) (nI cap) a fu k0 k1 f (nI c) (nI n) F lc sl = k1 c1 n1 F1 lc1 sl1) ∧ ∃ c1 n1 F1 lc1 sl1, f_M_findSets_L28 vR vP vF vE (nI C) vAl vPe vB vBh vEn vRo vEx (nI cap) (nI i) fu m0 m1 f' (nI c) (nI n) set gv lm = m1 c1 n1 F1 lc1 sl1)
  | 0, c, f, f', n, F, set, sl, gv, lc, lm, hc, hf, hf', hi, hn, hx, hE, hL => by
    obtain ⟨f, rfl⟩ : ∃ g, f = g + 1 := ⟨f - 1, by omega⟩
    obtain ⟨f', rfl⟩ : ∃ g, f' = g + 1 := ⟨f' - 1, by omega⟩
    have : c = C := by omega
    subst this
    rw [f_Graph_exploreFrom_L17_s, f_M_findSets_L28_s, ifT (nI_le (Nat.le_refl _) (by omega)), ifT (nI_le (Nat.le_refl _) (by omega))]
    exact Or.inl ⟨n, F, set, sl, gv, lc, lm, Nat.le_refl _, hn, hE, fun j c' h1 h2 => hL j c' h1 (by omega), rfl, rfl⟩
  | d + 1, c, f, f', n, F, set, sl, gv, lc, lm, hc, hf, hf', hi, hn, hx, hE, hL => by
    obtain ⟨f, rfl⟩ : ∃ g, f = g + 1 := ⟨f - 1, by omega⟩
    obtain ⟨f', rfl⟩ : ∃ g, f' = g + 1 := ⟨f' - 1, by omega⟩
    have hcc : c < C := by omega
    have q95 : ¬ (95 : Int32) ≤ nI c := nI_ge (b := 95) (by omega) (by decide)
    have hled : ∃ y, f_M_led fu (nI i) (vEx c) vP vF vB vBh set = some y ∧ Sh P (a &&& rc c) y := by
      by_cases z : i = 0
      · subst z
        obtain ⟨a', y, e1, e2, e3⟩ := hA.l0 set c hcc
        have : x = 1 := hx.symm.trans hE.2.2.1
        rw [← this, ha] at e1
        have : a = a' := Option.some.inj e1
        subst this
        exact ⟨y, e2, e3⟩
      · obtain ⟨a', y, e1, e2, e3⟩ := hA.ls set i (F i) c hcc (by omega) (by omega) (hE.2.2.2.1 i (by omega) hi)
        rw [hx, ha] at e1
        have : a = a' := Option.some.inj e1
        subst this
        exact ⟨y, e2, e3⟩
    obtain ⟨y, hy, hSh⟩ := hled
    have eR : f_Union_readersOfColumn (nI c) (nI C) rc = some (rc c) := by
      unfold f_Union_readersOfColumn
      rw [ifF (nI_pos (by omega)), ifF (nI_ge hcc (by omega)), ifT (inB_nI (by omega) (by omega)), nI_clamp (by omega)]
    have ei : nI i * 95 + nI c = nI (i * 95 + c) := by
      rw [show (95 : Int32) = nI 95 from rfl, pk_mul, nI_add]
    have em : 96 * nI i + nI c = nI (96 * i + c) := by
      rw [show (96 : Int32) = nI 96 from rfl, pk_mul, nI_add]
    rcases ex_one hA hP hfu hcap hn hE hSh with ⟨n', F', sl', set', gv', v, g1, g2, g3, g4, g5, g6, g7⟩ | ⟨g1, g2, set', gv', g3⟩
    · have s1 : f_Graph_exploreFrom_L17 (nI C) rc (nI i) (nI cap) a fu k0 k1 (f + 1) (nI c) (nI n) F lc sl = f_Graph_exploreFrom_L17 (nI C) rc (nI i) (nI cap) a fu k0 k1 f (nI (c + 1)) (nI n') F' (upd lc (i * 95 + c) (nI v)) sl' := by
        rw [f_Graph_exploreFrom_L17_s, ifF (nI_ge hcc (by omega)), ifF q95, eR]
        show Option.bind (f_Graph_numberOf fu (a &&& rc c) (nI cap) (nI n) F sl) _ = _
        rw [g6]
        show (if 0 ≤ nI v then (if inB (nI i * 95 + nI c) 11400 = true then f_Graph_exploreFrom_L17 (nI C) rc (nI i) (nI cap) a fu k0 k1 f (nI c + 1) (nI n') F' (upd lc (nI i * 95 + nI c).toNatClampNeg (nI v)) sl' else none) else k1 (nI c) (nI n') F' lc sl') = _
        rw [ifT (nI_pos' (by omega)), ei, ifT (inB_nI (by omega) (by omega)), nI_clamp (by omega), nI_1]
      have s2 : f_M_findSets_L28 vR vP vF vE (nI C) vAl vPe vB vBh vEn vRo vEx (nI cap) (nI i) fu m0 m1 (f' + 1) (nI c) (nI n) set gv lm = f_M_findSets_L28 vR vP vF vE (nI C) vAl vPe vB vBh vEn vRo vEx (nI cap) (nI i) fu m0 m1 f' (nI (c + 1)) (nI n') set' gv' (upd lm (96 * i + c) (nI v)) := by
        rw [f_M_findSets_L28_s, ifF (nI_ge hcc (by omega)), ifT (inB_nI (by omega) (by omega)), nI_clamp (by omega), hy]
        show Option.bind (f_M_numbered fu y vR vP vE (nI n) vAl vPe vEn vRo set gv) _ = _
        rw [g7]
        show (if inB (96 * nI i + nI c) 11712 = true then (if nI n' ≤ nI cap then f_M_findSets_L28 vR vP vF vE (nI C) vAl vPe vB vBh vEn vRo vEx (nI cap) (nI i) fu m0 m1 f' (nI c + 1) (nI n') set' gv' (upd lm (96 * nI i + nI c).toNatClampNeg (nI v)) else m1 (nI c) (nI n') set' gv' (upd lm (96 * nI i + nI c).toNatClampNeg (nI v))) else none) = _
        rw [em, ifT (inB_nI (by omega) (by omega)), ifT (nI_le g2 (by omega)), nI_clamp (by omega), nI_1]
      rw [s1, s2]
      have hL' : LD C n' i (c + 1) (upd lc (i * 95 + c) (nI v)) (upd lm (96 * i + c) (nI v)) := fun j c' h1 h2 => by
        by_cases z : j = i ∧ c' = c
        · obtain ⟨z1, z2⟩ := z
          subst z1 z2
          exact ⟨v, g3, by rw [pk_us], by rw [pk_us]⟩
        · obtain ⟨w, w1, w2, w3⟩ := hL j c' h1 (by omega)
          exact ⟨w, by omega, by rw [pk_un (by omega)]; exact w2, by rw [pk_un (by omega)]; exact w3⟩
      rcases ex_in hA hP hC hfu hcap ha k0 k1 m0 m1 d (c + 1) f f' n' F' set' sl' gv' _ _ (by omega) (by omega) (by omega) (by omega) g2 ((g5 i hi).1.trans hx) g4 hL' with ⟨n2, F2, set2, sl2, gv2, lc2, lm2, t1, t2, t3, t4, t5, t6⟩ | r
      · exact Or.inl ⟨n2, F2, set2, sl2, gv2, lc2, lm2, by omega, t2, t3, t4, t5, t6⟩
      · exact Or.inr r
    · refine Or.inr ⟨⟨nI c, nI n, F, lc, sl, ?_⟩, ⟨nI c, nI (n + 1), set', gv', upd lm (96 * i + c) (nI n), ?_⟩⟩
      · rw [f_Graph_exploreFrom_L17_s, ifF (nI_ge hcc (by omega)), ifF q95, eR]
        show Option.bind (f_Graph_numberOf fu (a &&& rc c) (nI cap) (nI n) F sl) _ = _
        rw [g1]
        rfl
      · rw [f_M_findSets_L28_s, ifF (nI_ge hcc (by omega)), ifT (inB_nI (by omega) (by omega)), nI_clamp (by omega), hy]
        show Option.bind (f_M_numbered fu y vR vP vE (nI n) vAl vPe vEn vRo set gv) _ = _
        rw [g3]
        show (if inB (96 * nI i + nI c) 11712 = true then (if nI (n + 1) ≤ nI cap then f_M_findSets_L28 vR vP vF vE (nI C) vAl vPe vB vBh vEn vRo vEx (nI cap) (nI i) fu m0 m1 f' (nI c + 1) (nI (n + 1)) set' gv' (upd lm (96 * nI i + nI c).toNatClampNeg (nI n)) else m1 (nI c) (nI (n + 1)) set' gv' (upd lm (96 * nI i + nI c).toNatClampNeg (nI n))) else none) = _
        rw [em, ifT (inB_nI (by omega) (by omega)), ifF (nI_ge (by omega) (by omega)), nI_clamp (by omega)]
theorem ex_out (hA : AG fu P C zb rc zE zR zA zD vR vP vF vE vAl vPe vB vBh vEn vRo vEx) (hP : P ≤ 60) (hC : C ≤ 95) (hfu : 300 ≤ fu) (hcap : cap ≤ 120) (k0 k1 m0 m1 : Int32 → Int32 → (Nat → Int64) → (Nat → Int32) → (Nat → Int32) → Option (Int32 × Int32 × (Nat → Int64) × (Nat → Int32) × (Nat → Int32))) : ∀ (d i f f' n : Nat) (F set : Nat → Int64) (sl gv lc lm : Nat → Int32), i + d = 120 → d < f → d < f' → i ≤ n → n ≤ cap → EX fu P zE zR zA zD n F sl set gv → LD C n i 0 lc lm →
    (∃ (n' : Nat) (F' set' : Nat → Int64) (sl' gv' lc' lm' : Nat → Int32), n' ≤ cap ∧ EX fu P zE zR zA zD n' F' sl' set' gv' ∧ LD C n' n' 0 lc' lm' ∧ f_Graph_explore_L22 (nI C) zb rc (nI cap) fu k0 k1 f (nI i) (nI n) F lc sl = k0 (nI n') (nI n') F' lc' sl' ∧ f_M_findSets_L18 vR vP vF vE (nI C) vAl vPe vB vBh vEn vRo vEx (nI cap) fu m0 m1 f' (nI i) (nI n) set gv lm = m0 (nI n') (nI n') set' gv' lm') ∨
    ((∃ c1 n1 F1 lc1 sl1, f_Graph_explore_L22 (nI C) zb rc (nI cap) fu k0 k1 f (nI i) (nI n) F lc sl = k1 c1 n1 F1 lc1 sl1) ∧ ∃ c1 n1 F1 lc1 sl1, f_M_findSets_L18 vR vP vF vE (nI C) vAl vPe vB vBh vEn vRo vEx (nI cap) fu m0 m1 f' (nI i) (nI n) set gv lm = m1 c1 n1 F1 lc1 sl1) := by
  intro d
  induction d with
  | zero =>
    intro i f f' n F set sl gv lc lm hd hf hf' hi hn hE hL
    obtain ⟨f, rfl⟩ : ∃ g, f = g + 1 := ⟨f - 1, by omega⟩
    obtain ⟨f', rfl⟩ : ∃ g, f' = g + 1 := ⟨f' - 1, by omega⟩
    have : i = n := by omega
    subst this
    rw [f_Graph_explore_L22_s, f_M_findSets_L18_s, ifT (nI_le (Nat.le_refl _) (by omega)), ifT (nI_le (Nat.le_refl _) (by omega))]
    exact Or.inl ⟨i, F, set, sl, gv, lc, lm, hn, hE, hL, rfl, rfl⟩
  | succ d ih =>
    intro i f f' n F set sl gv lc lm hd hf hf' hi hn hE hL
    obtain ⟨f, rfl⟩ : ∃ g, f = g + 1 := ⟨f - 1, by omega⟩
    obtain ⟨f', rfl⟩ : ∃ g, f' = g + 1 := ⟨f' - 1, by omega⟩
    by_cases he : i = n
    · subst he
      rw [f_Graph_explore_L22_s, f_M_findSets_L18_s, ifT (nI_le (Nat.le_refl _) (by omega)), ifT (nI_le (Nat.le_refl _) (by omega))]
      exact Or.inl ⟨i, F, set, sl, gv, lc, lm, hn, hE, hL, rfl, rfl⟩
    · have hin : i < n := by omega
      obtain ⟨a, ha⟩ := hA.ba (F i)
      have q1 : ¬ (120 : Int32) ≤ nI i := nI_ge (b := 120) (by omega) (by decide)
      rw [f_Graph_explore_L22_s, f_M_findSets_L18_s, ifF (nI_ge hin (by omega)), ifF q1, ifF (nI_ge hin (by omega))]
      have eX : f_Graph_exploreFrom fu (nI i) (nI cap) (nI n) F lc sl (nI C) zb rc = f_Graph_exploreFrom_L17 (nI C) rc (nI i) (nI cap) a fu (fun l5_17 ss_count_17 ss_found_17 ss_leads_17 ss_slots_17 => (if ((1 : Int32) = 0 ∨ (1 : Int32) = 1) then some ((1 : Int32), ss_count_17, ss_found_17, ss_leads_17, ss_slots_17) else none)) (fun l5_17 ss_count_17 ss_found_17 ss_leads_17 ss_slots_17 => (if ((0 : Int32) = 0 ∨ (0 : Int32) = 1) then some ((0 : Int32), ss_count_17, ss_found_17, ss_leads_17, ss_slots_17) else none)) fu (nI 0) (nI n) F lc sl := by
        unfold f_Graph_exploreFrom
        rw [ifT (inB_nI (by omega) (by omega)), nI_clamp (by omega), ha]
        rfl
      rw [eX]
      rcases ex_in hA hP hC hfu hcap ha (fun l5_17 ss_count_17 ss_found_17 ss_leads_17 ss_slots_17 => (if ((1 : Int32) = 0 ∨ (1 : Int32) = 1) then some ((1 : Int32), ss_count_17, ss_found_17, ss_leads_17, ss_slots_17) else none)) (fun l5_17 ss_count_17 ss_found_17 ss_leads_17 ss_slots_17 => (if ((0 : Int32) = 0 ∨ (0 : Int32) = 1) then some ((0 : Int32), ss_count_17, ss_found_17, ss_leads_17, ss_slots_17) else none)) (fun l3_28 v_sets_28 v_set_28 v_given_28 v_leads_28 => (f_M_findSets_L18 vR vP vF vE (nI C) vAl vPe vB vBh vEn vRo vEx (nI cap) fu m0 m1 f' (nI i + 1) v_sets_28 v_set_28 v_given_28 v_leads_28)) (fun l3_28 v_sets_28 v_set_28 v_given_28 v_leads_28 => (m1 (nI i) v_sets_28 v_set_28 v_given_28 v_leads_28)) C 0 fu fu n F set sl gv lc lm (by omega) (by omega) (by omega) hin hn rfl hE hL with ⟨n', F', set', sl', gv', lc', lm', t1, t2, t3, t4, t5, t6⟩ | ⟨⟨c1, n1, F1, lc1, sl1, t1⟩, ⟨c2, n2, F2, lc2, sl2, t2⟩⟩
      · rw [t5]
        have t6' := t6
        rcases ih (i + 1) f f' n' F' set' sl' gv' lc' lm' (by omega) (by omega) (by omega) (by omega) t2 t3 t4 with ⟨n3, F3, set3, sl3, gv3, lc3, lm3, u1, u2, u3, u4, u5⟩ | ⟨⟨c1, n1, F1, lc1, sl1, u1⟩, ⟨c2, n2, F2, lc2, sl2, u2⟩⟩
        · refine Or.inl ⟨n3, F3, set3, sl3, gv3, lc3, lm3, u1, u2, u3, ?_, ?_⟩
          · rw [← u4, ← nI_1]; rfl
          · refine Eq.trans t6 ?_
            rw [← u5, ← nI_1]
        · refine Or.inr ⟨⟨c1, n1, F1, lc1, sl1, ?_⟩, ⟨c2, n2, F2, lc2, sl2, ?_⟩⟩
          · rw [← u1, ← nI_1]; rfl
          · refine Eq.trans t6 ?_
            rw [← u2, ← nI_1]
      · rw [t1]
        exact Or.inr ⟨⟨_, _, _, _, _, rfl⟩, ⟨_, _, _, _, _, t2⟩⟩
/-- finding the sets -/
theorem ex_all (hA : AG fu P C zb rc zE zR zA zD vR vP vF vE vAl vPe vB vBh vEn vRo vEx) (hP : P ≤ 60) (hC : C ≤ 95) (hfu : 300 ≤ fu) (hcap : cap ≤ 120) (hcap1 : 1 ≤ cap) (F0 set0 : Nat → Int64) (lc0 sl0 gv0 lm0 : Nat → Int32) :
    (∃ (n' : Nat) (F' set' : Nat → Int64) (sl' gv' lc' lm' : Nat → Int32), n' ≤ cap ∧ EX fu P zE zR zA zD n' F' sl' set' gv' ∧ LD C n' n' 0 lc' lm' ∧ f_Graph_explore fu (nI cap) F0 lc0 sl0 (nI C) zb rc = some (1, nI n', F', lc', sl') ∧ f_M_findSets fu (nI cap) vR vP vF vE (nI C) vAl vPe vB vBh vEn vRo vEx set0 gv0 lm0 = some (1, nI n', set', gv', lm')) ∨
    ((∃ n1 F1 lc1 sl1, f_Graph_explore fu (nI cap) F0 lc0 sl0 (nI C) zb rc = some (0, n1, F1, lc1, sl1)) ∧ ∃ n1 F1 lc1 sl1, f_M_findSets fu (nI cap) vR vP vF vE (nI C) vAl vPe vB vBh vEn vRo vEx set0 gv0 lm0 = some (0, n1, F1, lc1, sl1)) := by
  obtain ⟨slz, z1, z2, z3⟩ := fillI_ok (N := 256) (fu := fu) (by omega) (by omega) 0 sl0
  have hH0 : HS 0 F0 slz := ⟨fun i j hi => absurd hi (Nat.not_lt_zero _), fun p hp => Or.inl (z2 p hp), fun p p' hp _ _ hne => absurd (z2 p hp) hne, fun i hi => absurd hi (Nat.not_lt_zero _)⟩
  obtain ⟨sl1, e1, e2⟩ := (num_new (n := 0) (x := 1) (cap := cap) (by omega) hH0 hfu hcap (fun i hi => absurd hi (Nat.not_lt_zero _))).1 (by omega)
  obtain ⟨v, v1, v2⟩ := hA.p0 set0
  have hE : EX fu P zE zR zA zD 1 (vp_updL F0 0 1) sl1 set0 (upd gv0 0 v) := ⟨e2, Nat.le_refl _, by rw [pk_uLs], fun j a b => by omega, fun j hj => by
    have : j = 0 := by omega
    subst this
    rw [pk_uLs, pk_us]
    exact v1⟩
  have eG : ∀ (k : Int32 × Int32 × (Nat → Int64) × (Nat → Int32) → Option (Int32 × Int32 × (Nat → Int64) × (Nat → Int32) × (Nat → Int32))), Option.bind (f_Graph_numberOf fu 1 (nI cap) (nI 0) F0 slz) k = k (nI 0, nI 1, vp_updL F0 0 1, sl1) := fun k => by rw [e1]; rfl
  unfold f_Graph_explore f_M_findSets
  rw [z1]
  have v2' : f_M_permits fu 0 vR vP vE vAl vPe vEn vRo set0 = some v := v2
  rw [v2']
  rcases ex_out hA hP hC hfu hcap (fun l2_22 ss_count_22 ss_found_22 ss_leads_22 ss_slots_22 => (if ((1 : Int32) = 0 ∨ (1 : Int32) = 1) then some ((1 : Int32), ss_count_22, ss_found_22, ss_leads_22, ss_slots_22) else none)) (fun l2_22 ss_count_22 ss_found_22 ss_leads_22 ss_slots_22 => (if ((0 : Int32) = 0 ∨ (0 : Int32) = 1) then some ((0 : Int32), ss_count_22, ss_found_22, ss_leads_22, ss_slots_22) else none)) (fun l2_18 v_sets_18 v_set_18 v_given_18 v_leads_18 => (if ((1 : Int32) = 0 ∨ (1 : Int32) = 1) then some ((1 : Int32), v_sets_18, v_set_18, v_given_18, v_leads_18) else none)) (fun l2_18 v_sets_18 v_set_18 v_given_18 v_leads_18 => (if ((0 : Int32) = 0 ∨ (0 : Int32) = 1) then some ((0 : Int32), v_sets_18, v_set_18, v_given_18, v_leads_18) else none)) 120 0 fu fu 1 (vp_updL F0 0 1) set0 sl1 (upd gv0 0 v) lc0 lm0 (by omega) (by omega) (by omega) (by omega) hcap1 hE (fun j c' h1 h2 => by omega) with ⟨n3, F3, set3, sl3, gv3, lc3, lm3, u1, u2, u3, u4, u5⟩ | ⟨⟨c1, n1, F1, lc1, sl1', u1⟩, ⟨c2, n2, F2, lc2, sl2, u2⟩⟩
  · refine Or.inl ⟨n3, F3, set3, sl3, gv3, lc3, lm3, u1, u2, u3, ?_, ?_⟩
    · refine Eq.trans (eG _) (Eq.trans u4 ?_)
      exact ifT (Or.inr rfl)
    · refine Eq.trans (b := f_M_findSets_L18 vR vP vF vE (nI C) vAl vPe vB vBh vEn vRo vEx (nI cap) fu _ _ fu (nI 0) (nI 1) set0 (upd gv0 0 v) lm0) ?_ (Eq.trans u5 ?_)
      · rfl
      · exact ifT (Or.inr rfl)
  · refine Or.inr ⟨⟨n1, F1, lc1, sl1', ?_⟩, ⟨n2, F2, lc2, sl2, ?_⟩⟩
    · refine Eq.trans (eG _) (Eq.trans u1 ?_)
      exact ifT (Or.inl rfl)
    · refine Eq.trans (b := f_M_findSets_L18 vR vP vF vE (nI C) vAl vPe vB vBh vEn vRo vEx (nI cap) fu _ _ fu (nI 0) (nI 1) set0 (upd gv0 0 v) lm0) ?_ (Eq.trans u2 ?_)
      · rfl
      · exact ifT (Or.inl rfl)
end EXP
