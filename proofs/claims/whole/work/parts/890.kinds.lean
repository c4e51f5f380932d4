/-! KINDS, round by round: al K i j: sets i and j are of one kind and lead to one kind by each column; each kind is numbered where its first set stands -/
section KI
variable (C : Nat) (ld : Nat → Nat → Nat)
def al (K : Nat → Int32) (i j : Nat) : Prop := K i = K j ∧ ∀ c, c < C → K (ld i c) = K (ld j c)
def isnew (K : Nat → Int32) (i : Nat) : Prop := ∀ t, t < i → ¬ al C ld K t i
noncomputable def nwc (K : Nat → Int32) : Nat → Nat
  | 0 => 0
  | i + 1 => nwc K i + (@ite _ (isnew C ld K i) (Classical.propDecidable _) 1 0)
/-- fin numbers the sets below M by their kinds -/
def FN (K : Nat → Int32) (M : Nat) (fin : Nat → Nat) : Prop := ∀ i, i < M → (isnew C ld K i ∧ fin i = nwc C ld K i) ∨ ∃ t, t < i ∧ al C ld K t i ∧ fin i = fin t
variable {C ld}
theorem al.rf {K : Nat → Int32} (i : Nat) : al C ld K i i := ⟨rfl, fun _ _ => rfl⟩
theorem al.sm {K : Nat → Int32} {i j : Nat} (h : al C ld K i j) : al C ld K j i := ⟨h.1.symm, fun c hc => (h.2 c hc).symm⟩
theorem al.tr {K : Nat → Int32} {i j k : Nat} (h : al C ld K i j) (g : al C ld K j k) : al C ld K i k := ⟨h.1.trans g.1, fun c hc => (h.2 c hc).trans (g.2 c hc)⟩
theorem nwc_new {K : Nat → Int32} {i : Nat} (h : isnew C ld K i) : nwc C ld K (i + 1) = nwc C ld K i + 1 := by rw [nwc, if_pos h]
theorem nwc_old {K : Nat → Int32} {i : Nat} (h : ¬ isnew C ld K i) : nwc C ld K (i + 1) = nwc C ld K i := by rw [nwc, if_neg h, Nat.add_zero]
theorem nwc_mono {K : Nat → Int32} : ∀ {a b : Nat}, a ≤ b → nwc C ld K a ≤ nwc C ld K b
  | a, 0, h => by have : a = 0 := by omega
                  subst this; exact Nat.le_refl _
  | a, b + 1, h => by
    by_cases e : a = b + 1
    · subst e; exact Nat.le_refl _
    · have := nwc_mono (K := K) (show a ≤ b by omega)
      by_cases hn : isnew C ld K b
      · rw [nwc_new hn]; omega
      · rw [nwc_old hn]; exact this
theorem nwc_le {K : Nat → Int32} : ∀ i, nwc C ld K i ≤ i
  | 0 => Nat.le_refl _
  | i + 1 => by
    have := nwc_le (K := K) i
    by_cases hn : isnew C ld K i
    · rw [nwc_new hn]; omega
    · rw [nwc_old hn]; omega
theorem nwc_strict {K : Nat → Int32} {a b : Nat} (h : a < b) (hn : isnew C ld K a) : nwc C ld K a < nwc C ld K b := by
  have := nwc_mono (C := C) (ld := ld) (K := K) (show a + 1 ≤ b by omega)
  rw [nwc_new hn] at this
  omega
/-- every set has a first one of its kind -/
theorem first_of {K : Nat → Int32} : ∀ i, ∃ l, l ≤ i ∧ isnew C ld K l ∧ al C ld K l i := by
  intro i
  induction i using Nat.strongRecOn with
  | _ i ih =>
    by_cases h : isnew C ld K i
    · exact ⟨i, Nat.le_refl _, h, al.rf i⟩
    · obtain ⟨t, ht, ha⟩ : ∃ t, t < i ∧ al C ld K t i := Classical.byContradiction fun q => h (fun t ht ha => q ⟨t, ht, ha⟩)
      obtain ⟨l, h1, h2, h3⟩ := ih t ht
      exact ⟨l, by omega, h2, h3.tr ha⟩
theorem new_eq {K : Nat → Int32} {l l' : Nat} (h : isnew C ld K l) (h' : isnew C ld K l') (ha : al C ld K l l') : l = l' := by
  rcases Nat.lt_trichotomy l l' with q | q | q
  · exact absurd ha (h' l q)
  · exact q
  · exact absurd ha.sm (h l' q)
theorem FN.at {K : Nat → Int32} {M : Nat} {fin : Nat → Nat} (h : FN C ld K M fin) : ∀ i, i < M → ∀ l, isnew C ld K l → al C ld K l i → fin i = nwc C ld K l := by
  intro i
  induction i using Nat.strongRecOn with
  | _ i ih =>
    intro hi l hl ha
    rcases h i hi with ⟨h1, h2⟩ | ⟨t, ht, h1, h2⟩
    · rw [h2, new_eq hl h1 ha]
    · rw [h2]
      exact ih t ht (by omega) l hl (ha.tr h1.sm)
theorem FN.iff {K : Nat → Int32} {M : Nat} {fin : Nat → Nat} (h : FN C ld K M fin) {i j : Nat} (hi : i < M) (hj : j < M) : fin i = fin j ↔ al C ld K i j := by
  obtain ⟨l, a1, a2, a3⟩ := first_of (C := C) (ld := ld) (K := K) i
  obtain ⟨l', b1, b2, b3⟩ := first_of (C := C) (ld := ld) (K := K) j
  rw [h.at i hi l a2 a3, h.at j hj l' b2 b3]
  constructor
  · intro e
    have : l = l' := by
      rcases Nat.lt_trichotomy l l' with q | q | q
      · have := nwc_strict q a2; omega
      · exact q
      · have := nwc_strict q b2; omega
    subst this
    exact a3.sm.tr b3
  · intro e
    rw [new_eq a2 b2 (a3.tr (e.tr b3.sm))]
theorem FN.lt {K : Nat → Int32} {M : Nat} {fin : Nat → Nat} (h : FN C ld K M fin) {i : Nat} (hi : i < M) : fin i < nwc C ld K M := by
  obtain ⟨l, a1, a2, a3⟩ := first_of (C := C) (ld := ld) (K := K) i
  rw [h.at i hi l a2 a3]
  exact nwc_strict (by omega) a2
theorem FN.one {K : Nat → Int32} {M : Nat} {fin fin' : Nat → Nat} (h : FN C ld K M fin) (h' : FN C ld K M fin') : ∀ i, i < M → fin i = fin' i := fun i hi => by
  obtain ⟨l, a1, a2, a3⟩ := first_of (C := C) (ld := ld) (K := K) i
  rw [h.at i hi l a2 a3, h'.at i hi l a2 a3]
/-- a next round never has fewer kinds -/
theorem nwc_grow {K : Nat → Int32} {M : Nat} {fin : Nat → Nat} {K' : Nat → Int32} (h : FN C ld K M fin) (hK : ∀ i, i < M → K' i = nI (fin i)) (hM : M ≤ 1000) : nwc C ld K M ≤ nwc C ld K' M := by
  have hlt : ∀ i, i < M → fin i < 1000 := fun i hi => by
    have := h.lt hi
    have := nwc_le (C := C) (ld := ld) (K := K) M
    omega
  have key : ∀ m, m ≤ M → nwc C ld K m ≤ nwc C ld K' m := by
    intro m
    induction m with
    | zero => intro _; exact Nat.le_refl _
    | succ m ih =>
      intro hm
      have ih := ih (by omega)
      by_cases hn : isnew C ld K m
      · have hn' : isnew C ld K' m := fun t ht ha => hn t ht ((h.iff (by omega) (by omega)).mp (by
          have := ha.1
          rw [hK t (by omega), hK m (by omega)] at this
          exact (nI_eq (by have := hlt t (by omega); omega) (by have := hlt m (by omega); omega)).mp this))
        rw [nwc_new hn, nwc_new hn']; omega
      · rw [nwc_old hn]
        exact Nat.le_trans ih (nwc_mono (by omega))
  exact key M (Nat.le_refl _)
end KI
