/-! the class's sets by their hash: open places, from a set's own place on -/
theorem least_of {P : Nat → Prop} : ∀ n, P n → ∃ m, m ≤ n ∧ P m ∧ ∀ j, j < m → ¬ P j := by
  intro n
  induction n using Nat.strongRecOn with
  | _ n ih =>
    intro h
    by_cases q : ∃ j, j < n ∧ P j
    · obtain ⟨j, hj, hp⟩ := q
      obtain ⟨m, a, b⟩ := ih j hj hp
      exact ⟨m, by omega, b⟩
    · exact ⟨n, Nat.le_refl _, h, fun j hj hp => q ⟨j, hj, hp⟩⟩
theorem toI32_256 : ∀ m, m < 256 → (lN m).toInt32 = nI m := by decide +kernel
def hs (x : Int64) : Nat := ((jlushr (x * (-7046029254386353131 : Int64)) (56 : Int32))).toInt32.toNatClampNeg
theorem hs_ok (x : Int64) : hs x < 256 ∧ ((jlushr (x * (-7046029254386353131 : Int64)) (56 : Int32))).toInt32 = nI (hs x) := by
  obtain ⟨n, hn, e⟩ := wb_of (x * (-7046029254386353131 : Int64))
  have e2 : jlushr (x * (-7046029254386353131 : Int64)) (56 : Int32) = lN (n / 2 ^ 56) := by
    rw [e]
    exact wb_shr (k := 56) hn (by omega)
  have hm : n / 2 ^ 56 < 256 := by omega
  unfold hs
  rw [e2, toI32_256 _ hm, nI_clamp (by omega)]
  exact ⟨hm, rfl⟩
theorem pl_and : ∀ m, m < 256 → (nI m + 1) &&& 255 = nI ((m + 1) % 256) := by decide +kernel
/-- n sets F, all different, each to be found from its own place on -/
def HS (n : Nat) (F : Nat → Int64) (sl : Nat → Int32) : Prop :=
  (∀ i j, i < n → j < n → F i = F j → i = j) ∧ (∀ p, p < 256 → sl p = 0 ∨ ∃ k, k < n ∧ sl p = nI (k + 1)) ∧ (∀ p p', p < 256 → p' < 256 → sl p = sl p' → ¬ sl p = 0 → p = p') ∧ (∀ i, i < n → ∃ u, u < 256 ∧ sl ((hs (F i) + u) % 256) = nI (i + 1) ∧ ∀ t, t < u → ¬ sl ((hs (F i) + t) % 256) = 0)
theorem nI_s0 {k : Nat} (hk : k < 1000) : ¬ nI (k + 1) = 0 := nI_ne0 (by omega) (by omega)
section HA
variable {n : Nat} {F : Nat → Int64} {sl : Nat → Int32} {x : Int64}
theorem probe (hn : n ≤ 120) (hS : HS n F sl) (h : Nat) (k0 k1 : Int32 → Int32 → Option (Int32 × Int32 × (Nat → Int64) × (Nat → Int32))) (k2 : Int32 → Int32 → Int32 → Option (Int32 × Int32 × (Nat → Int64) × (Nat → Int32))) {u : Nat} (hu : u < 256) : ∀ (d t f : Nat), t + d = u → d < f → (∀ t', t ≤ t' → t' < u → ∃ k, k < n ∧ sl ((h + t') % 256) = nI (k + 1) ∧ ¬ F k = x) →
    (sl ((h + u) % 256) = 0 → f_Graph_numberOf_L14 (nI n) F sl x k0 k1 k2 f (nI t) (nI ((h + t) % 256)) = k1 (nI u) (nI ((h + u) % 256))) ∧ (∀ i, i < n → sl ((h + u) % 256) = nI (i + 1) → F i = x → f_Graph_numberOf_L14 (nI n) F sl x k0 k1 k2 f (nI t) (nI ((h + t) % 256)) = k2 (nI u) (nI ((h + u) % 256)) (nI i))
  | 0, t, f, ht, hf, hq => by
    obtain ⟨f, rfl⟩ : ∃ g, f = g + 1 := ⟨f - 1, by omega⟩
    have : t = u := by omega
    subst this
    have q1 : ¬ (256 : Int32) ≤ nI t := nI_ge (b := 256) (by omega) (by decide)
    have hm : (h + t) % 256 < 256 := Nat.mod_lt _ (by decide)
    rw [f_Graph_numberOf_L14_s, ifF q1, ifT (inB_nI hm (by omega)), nI_clamp (by omega)]
    constructor
    · intro z
      rw [z]
      exact ifT (by decide)
    · intro i hi z e
      have e1 : nI (i + 1) - 1 = nI i := pk_sub (b := 1) (by omega)
      rw [z, e1, ifF (nI_pos (by omega)), ifT (nI_lt hi (by omega)), ifT (inB_nI (by omega) (by omega)), nI_clamp (by omega), ifT ((lg_cmp0 _ _).mpr e)]
  | d + 1, t, f, ht, hf, hq => by
    obtain ⟨f, rfl⟩ : ∃ g, f = g + 1 := ⟨f - 1, by omega⟩
    obtain ⟨k, hk, z, hne⟩ := hq t (Nat.le_refl _) (by omega)
    have q1 : ¬ (256 : Int32) ≤ nI t := nI_ge (b := 256) (by omega) (by decide)
    have hm : (h + t) % 256 < 256 := Nat.mod_lt _ (by decide)
    have e1 : nI (k + 1) - 1 = nI k := pk_sub (b := 1) (by omega)
    have e2 : ((h + t) % 256 + 1) % 256 = (h + (t + 1)) % 256 := by omega
    have e : f_Graph_numberOf_L14 (nI n) F sl x k0 k1 k2 (f + 1) (nI t) (nI ((h + t) % 256)) = f_Graph_numberOf_L14 (nI n) F sl x k0 k1 k2 f (nI (t + 1)) (nI ((h + (t + 1)) % 256)) := by
      rw [f_Graph_numberOf_L14_s, ifF q1, ifT (inB_nI hm (by omega)), nI_clamp (by omega), z, e1, ifF (nI_pos (by omega)), ifT (nI_lt hk (by omega)), ifT (inB_nI (by omega) (by omega)), nI_clamp (by omega), ifF (fun q => hne ((lg_cmp0 _ _).mp q)), nI_1, pl_and _ hm, e2]
    rw [e]
    exact probe hn hS h k0 k1 k2 hu d (t + 1) f (by omega) (by omega) (fun t' a b => hq t' (by omega) b)
theorem empty_place (hn : n ≤ 120) (hS : HS n F sl) (h : Nat) : ∃ u, u < 256 ∧ sl ((h + u) % 256) = 0 := by
  refine Classical.byContradiction fun q => ?_
  have hall : ∀ u, u < 256 → ∃ k, k < n ∧ sl ((h + u) % 256) = nI (k + 1) := fun u hu => by
    rcases hS.2.1 ((h + u) % 256) (Nat.mod_lt _ (by decide)) with z | z
    · exact absurd ⟨u, hu, z⟩ q
    · exact z
  have hch : ∃ g : Nat → Nat, ∀ u, u < 256 → g u < n ∧ sl ((h + u) % 256) = nI (g u + 1) := by
    refine ⟨fun u => if hu : u < 256 then Classical.choose (hall u hu) else 0, fun u hu => ?_⟩
    simp only [dif_pos hu]
    exact Classical.choose_spec (hall u hu)
  obtain ⟨g, hg⟩ := hch
  have := inj_le n 256 g (fun i hi => (hg i hi).1) (fun i j hi hj e => by
    have e1 : sl ((h + i) % 256) = sl ((h + j) % 256) := by rw [(hg i hi).2, (hg j hj).2, e]
    have e2 := hS.2.2.1 _ _ (Nat.mod_lt _ (by decide)) (Nat.mod_lt _ (by decide)) e1 (by rw [(hg i hi).2]; exact nI_s0 (by have := (hg i hi).1; omega))
    omega)
  omega
/-- the set has a number -/
theorem num_old (hn : n ≤ 120) (hS : HS n F sl) {fu : Nat} (hfu : 300 ≤ fu) (cap : Int32) {i : Nat} (hi : i < n) (e : F i = x) : f_Graph_numberOf fu x cap (nI n) F sl = some (nI i, nI n, F, sl) := by
  obtain ⟨u, hu, h1, h2⟩ := hS.2.2.2 i hi
  rw [e] at h1 h2
  have hp := (probe (x := x) hn hS (hs x) (fun l5_14 l4_14 => some ((-1 : Int32), nI n, F, sl)) (fun l5_14 l4_14 => (Option.bind (f_Graph_add x l4_14 cap (nI n) F sl) fun (r7, yss_count_8, yss_found_9, yss_slots_10) => some (r7, yss_count_8, yss_found_9, yss_slots_10))) (fun l5_14 l4_14 l6_x14 => some (l6_x14, nI n, F, sl)) hu u 0 fu (by omega) (by omega) (fun t' _ hb => by
    rcases hS.2.1 ((hs x + t') % 256) (Nat.mod_lt _ (by decide)) with z | ⟨k, hk, z⟩
    · exact absurd z (h2 t' hb)
    · refine ⟨k, hk, z, fun e' => ?_⟩
      have : k = i := hS.1 k i hk hi (e'.trans e.symm)
      subst this
      have := hS.2.2.1 _ _ (Nat.mod_lt _ (by decide)) (Nat.mod_lt _ (by decide)) (z.trans h1.symm) (by rw [z]; exact nI_s0 (by omega))
      omega)).2 i hi h1 e
  unfold f_Graph_numberOf
  rw [(hs_ok x).2]
  rw [show (hs x + 0) % 256 = hs x by have := (hs_ok x).1; omega] at hp
  exact hp
/-- the set has none: there is a place for it -/
theorem num_new (hn : n ≤ 120) (hS : HS n F sl) {fu : Nat} (hfu : 300 ≤ fu) {cap : Nat} (hcap : cap ≤ 120) (hno : ∀ i, i < n → ¬ F i = x) :
    (n < cap → ∃ sl', f_Graph_numberOf fu x (nI cap) (nI n) F sl = some (nI n, nI (n + 1), vp_updL F n x, sl') ∧ HS (n + 1) (vp_updL F n x) sl') ∧ (cap ≤ n → f_Graph_numberOf fu x (nI cap) (nI n) F sl = some (-1, nI n, F, sl)) := by
  obtain ⟨u0, hu0, z0⟩ := empty_place hn hS (hs x)
  obtain ⟨u, hu1, hz, hmin⟩ := least_of (P := fun u => sl ((hs x + u) % 256) = 0) u0 z0
  have hu : u < 256 := by omega
  have hp := (probe (x := x) hn hS (hs x) (fun l5_14 l4_14 => some ((-1 : Int32), nI n, F, sl)) (fun l5_14 l4_14 => (Option.bind (f_Graph_add x l4_14 (nI cap) (nI n) F sl) fun (r7, yss_count_8, yss_found_9, yss_slots_10) => some (r7, yss_count_8, yss_found_9, yss_slots_10))) (fun l5_14 l4_14 l6_x14 => some (l6_x14, nI n, F, sl)) hu u 0 fu (by omega) (by omega) (fun t' _ hb => by
    rcases hS.2.1 ((hs x + t') % 256) (Nat.mod_lt _ (by decide)) with z | ⟨k, hk, z⟩
    · exact absurd z (hmin t' hb)
    · exact ⟨k, hk, z, hno k hk⟩)).1 hz
  rw [show (hs x + 0) % 256 = hs x by have := (hs_ok x).1; omega] at hp
  have hm : (hs x + u) % 256 < 256 := Nat.mod_lt _ (by decide)
  constructor
  · intro hlt
    refine ⟨upd sl ((hs x + u) % 256) (nI (n + 1)), ?_, ?_⟩
    · unfold f_Graph_numberOf
      rw [(hs_ok x).2]
      refine Eq.trans hp ?_
      have q2 : nI n < (120 : Int32) := nI_lt (b := 120) (by omega) (by decide)
      have e1 : nI (n + 1) - 1 = nI n := pk_sub (b := 1) (by omega)
      have e : f_Graph_add x (nI ((hs x + u) % 256)) (nI cap) (nI n) F sl = some (nI n, nI (n + 1), vp_updL F n x, upd sl ((hs x + u) % 256) (nI (n + 1))) := by
        unfold f_Graph_add
        rw [ifF (nI_ge hlt (by omega)), ifT q2, ifT (inB_nI (by omega) (by omega)), ifT (inB_nI hm (by omega)), nI_clamp (by omega), nI_clamp (by omega), nI_1, e1]
      show Option.bind (f_Graph_add x (nI ((hs x + u) % 256)) (nI cap) (nI n) F sl) _ = _
      rw [e]
      rfl
    · refine ⟨fun i j hi hj e => ?_, fun p hp' => ?_, fun p p' h1 h2 e hne => ?_, fun i hi => ?_⟩
      · by_cases z1 : i = n
        · by_cases z2 : j = n
          · omega
          · subst z1
            rw [pk_uLs, pk_uLn z2] at e
            exact absurd e.symm (hno j (by omega))
        · by_cases z2 : j = n
          · subst z2
            rw [pk_uLs, pk_uLn z1] at e
            exact absurd e (hno i (by omega))
          · rw [pk_uLn z1, pk_uLn z2] at e
            exact hS.1 i j (by omega) (by omega) e
      · by_cases z : p = (hs x + u) % 256
        · rw [z, pk_us]; exact Or.inr ⟨n, by omega, rfl⟩
        · rw [pk_un z]
          rcases hS.2.1 p hp' with y | ⟨k, hk, y⟩
          · exact Or.inl y
          · exact Or.inr ⟨k, by omega, y⟩
      · by_cases z1 : p = (hs x + u) % 256
        · by_cases z2 : p' = (hs x + u) % 256
          · rw [z1, z2]
          · rw [z1, pk_us, pk_un z2] at e
            exfalso
            rcases hS.2.1 p' h2 with y | ⟨k, hk, y⟩
            · rw [y] at e; exact nI_s0 (by omega) e
            · rw [y] at e
              have := (nI_eq (by omega) (by omega)).mp e
              omega
        · by_cases z2 : p' = (hs x + u) % 256
          · rw [z2, pk_us, pk_un z1] at e
            exfalso
            rcases hS.2.1 p h1 with y | ⟨k, hk, y⟩
            · rw [y] at e; exact nI_s0 (by omega) e.symm
            · rw [y] at e
              have := (nI_eq (by omega) (by omega)).mp e
              omega
          · rw [pk_un z1, pk_un z2] at e
            rw [pk_un z1] at hne
            exact hS.2.2.1 p p' h1 h2 e hne
      · by_cases z : i = n
        · subst z
          rw [pk_uLs]
          refine ⟨u, hu, by rw [pk_us], fun t ht => ?_⟩
          rw [pk_un (by omega)]
          exact hmin t ht
        · obtain ⟨w, hw, a, b⟩ := hS.2.2.2 i (by omega)
          rw [pk_uLn z]
          have hkeep : ∀ p, ¬ sl p = 0 → upd sl ((hs x + u) % 256) (nI (n + 1)) p = sl p := fun p hp' => by
            by_cases y : p = (hs x + u) % 256
            · rw [y] at hp'; exact absurd hz hp'
            · rw [pk_un y]
          refine ⟨w, hw, ?_, fun t ht => ?_⟩
          · rw [hkeep _ (by rw [a]; exact nI_s0 (by omega))]; exact a
          · rw [hkeep _ (b t ht)]; exact b t ht
  · intro hge
    unfold f_Graph_numberOf
    rw [(hs_ok x).2]
    refine Eq.trans hp ?_
    have e : f_Graph_add x (nI ((hs x + u) % 256)) (nI cap) (nI n) F sl = some (-1, nI n, F, sl) := by
      unfold f_Graph_add
      rw [ifT (nI_le hge (by omega))]
    show Option.bind (f_Graph_add x (nI ((hs x + u) % 256)) (nI cap) (nI n) F sl) _ = _
    rw [e]
    rfl
end HA
