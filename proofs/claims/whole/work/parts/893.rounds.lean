/-! the rounds of kinds side by side -/
section RO
variable {M C : Nat} {ld : Nat → Nat → Nat} {K K' : Nat → Int32}
theorem al_congr (hld : ∀ i c, i < M → c < C → ld i c < M) (h : ∀ i, i < M → K i = K' i) {i j : Nat} (hi : i < M) (hj : j < M) : al C ld K i j ↔ al C ld K' i j := by
  unfold al
  rw [h i hi, h j hj]
  constructor
  · rintro ⟨a, b⟩; exact ⟨a, fun c hc => by rw [← h _ (hld i c hi hc), ← h _ (hld j c hj hc)]; exact b c hc⟩
  · rintro ⟨a, b⟩; exact ⟨a, fun c hc => by rw [h _ (hld i c hi hc), h _ (hld j c hj hc)]; exact b c hc⟩
theorem new_congr (hld : ∀ i c, i < M → c < C → ld i c < M) (h : ∀ i, i < M → K i = K' i) {i : Nat} (hi : i < M) : isnew C ld K i ↔ isnew C ld K' i := by
  unfold isnew
  constructor
  · intro q t ht ha; exact q t ht ((al_congr hld h (by omega) hi).mpr ha)
  · intro q t ht ha; exact q t ht ((al_congr hld h (by omega) hi).mp ha)
theorem nwc_congr (hld : ∀ i c, i < M → c < C → ld i c < M) (h : ∀ i, i < M → K i = K' i) : ∀ i, i ≤ M → nwc C ld K i = nwc C ld K' i
  | 0, _ => rfl
  | i + 1, hi => by
    have ih := nwc_congr hld h i (by omega)
    by_cases hn : isnew C ld K i
    · rw [nwc_new hn, nwc_new ((new_congr hld h (by omega)).mp hn), ih]
    · rw [nwc_old hn, nwc_old (fun q => hn ((new_congr hld h (by omega)).mpr q)), ih]
theorem FN.congr (hld : ∀ i c, i < M → c < C → ld i c < M) (h : ∀ i, i < M → K i = K' i) {fin : Nat → Nat} (hF : FN C ld K M fin) : FN C ld K' M fin := fun i hi => by
  rcases hF i hi with ⟨a, b⟩ | ⟨t, a, b, c⟩
  · exact Or.inl ⟨(new_congr hld h hi).mp a, by rw [b, nwc_congr hld h i (by omega)]⟩
  · exact Or.inr ⟨t, a, (al_congr hld h (by omega) hi).mp b, c⟩
theorem copyM {M : Nat} (hM : M ≤ 120) (fi : Nat → Int32) (kk : Int32 → (Nat → Int32) → Option ((Nat → Int32) × (Nat → Int32))) : ∀ (d i f : Nat) (ki : Nat → Int32), i + d = M → d < f → (∀ j, j < i → ki j = fi j) → ∃ ki' : Nat → Int32, f_M_findKinds_L161 (nI M) fi kk f (nI i) ki = kk (nI M) ki' ∧ ∀ j, j < M → ki' j = fi j
  | 0, i, f, ki, hi, hf, h => by
    obtain ⟨f, rfl⟩ : ∃ g, f = g + 1 := ⟨f - 1, by omega⟩
    have : i = M := by omega
    subst this
    exact ⟨ki, by rw [f_M_findKinds_L161_s, ifT (nI_le (Nat.le_refl _) (by omega))], h⟩
  | d + 1, i, f, ki, hi, hf, h => by
    obtain ⟨f, rfl⟩ : ∃ g, f = g + 1 := ⟨f - 1, by omega⟩
    have b : inB (nI i) 122 = true := inB_nI (by omega) (by omega)
    rw [f_M_findKinds_L161_s, ifF (nI_ge (by omega) (by omega)), ifT b, ifT b, nI_clamp (by omega), nI_1]
    exact copyM hM fi kk d (i + 1) f _ (by omega) (by omega) (fun j hj => by
      by_cases z : j = i
      · subst z; rw [pk_us]
      · rw [pk_un z]; exact h j (by omega))
theorem givM {M : Nat} (hM : M ≤ 120) (gv : Nat → Int32) (kk : Int32 → (Nat → Int32) → Option ((Nat → Int32) × (Nat → Int32))) : ∀ (d i f : Nat) (ki : Nat → Int32), i + d = M → d < f → (∀ j, j < i → ki j = gv j) → ∃ ki' : Nat → Int32, f_M_findKinds_L4 (nI M) gv kk f (nI i) ki = kk (nI M) ki' ∧ ∀ j, j < M → ki' j = gv j
  | 0, i, f, ki, hi, hf, h => by
    obtain ⟨f, rfl⟩ : ∃ g, f = g + 1 := ⟨f - 1, by omega⟩
    have : i = M := by omega
    subst this
    exact ⟨ki, by rw [f_M_findKinds_L4_s, ifT (nI_le (Nat.le_refl _) (by omega))], h⟩
  | d + 1, i, f, ki, hi, hf, h => by
    obtain ⟨f, rfl⟩ : ∃ g, f = g + 1 := ⟨f - 1, by omega⟩
    have b : inB (nI i) 122 = true := inB_nI (by omega) (by omega)
    rw [f_M_findKinds_L4_s, ifF (nI_ge (by omega) (by omega)), ifT b, ifT b, nI_clamp (by omega), nI_1]
    exact givM hM gv kk d (i + 1) f _ (by omega) (by omega) (fun j hj => by
      by_cases z : j = i
      · subst z; rw [pk_us]
      · rw [pk_un z]; exact h j (by omega))
/-- the rounds' sequence: from kinds K with n0 of them before, K' is where no kind is parted any more -/
def Ends (C : Nat) (ld : Nat → Nat → Nat) (M : Nat) : Nat → Nat → (Nat → Int32) → (Nat → Nat) → Prop
  | 0, _, _, _ => False
  | g + 1, n0, K, kn => ∃ fin : Nat → Nat, FN C ld K M fin ∧ ((nwc C ld K M ≤ n0 ∧ ∀ i, i < M → kn i = fin i) ∨ (n0 < nwc C ld K M ∧ Ends C ld M g (nwc C ld K M) (fun i => nI (fin i)) kn))
/-- the reference's rounds -/
theorem roundsM {v_leads : Nat → Int32} (hM : M ≤ 120) (hC : C ≤ 95) (hld : ∀ i c, i < M → c < C → ld i c < M) (hl : ∀ i c, i < M → c < C → v_leads (96 * i + c) = nI (ld i c)) {fu : Nat} (hfu : 300 ≤ fu) (kk : Int32 → Int32 → (Nat → Int32) → (Nat → Int32) → Option ((Nat → Int32) × (Nat → Int32))) : ∀ (g f n0 : Nat) (b : Int32) (K ki fi : Nat → Int32) (kn : Nat → Nat), Ends C ld M g n0 K kn → (∀ i, i < M → K i = ki i) → n0 ≤ nwc C ld K M → ¬ nI n0 = b → g + 1 < f →
    ∃ (x y : Int32) (ki' fi' : Nat → Int32), f_M_findKinds_L32 (nI C) (nI M) v_leads fu kk f b (nI n0) ki fi = kk x y ki' fi' ∧ ∀ i, i < M → ki' i = nI (kn i)
  | 0, f, n0, b, K, ki, fi, kn, hE, hK, hn, hb, hf => hE.elim
  | g + 1, f, n0, b, K, ki, fi, kn, hE, hK, hn, hb, hf => by
    obtain ⟨f, rfl⟩ : ∃ g', f = g' + 1 := ⟨f - 1, by omega⟩
    obtain ⟨fin, hF, hE⟩ := hE
    have hF' := hF.congr hld hK
    have hnw := nwc_congr hld hK M (Nat.le_refl _)
    have hle := nwc_le (C := C) (ld := ld) (K := K) M
    obtain ⟨fi1, fin1, r1, r2, r3⟩ := fk_round (K := ki) hM hC hld hl hfu (fun l3_43 l1_43 v_finer_43 => (f_M_findKinds_L161 (nI M) v_finer_43 (fun l3_161 v_kind_161 => (f_M_findKinds_L32 (nI C) (nI M) v_leads fu kk f (nI n0) l1_43 v_kind_161 v_finer_43)) fu (0 : Int32) ki)) M 0 fu fi (fun _ => 0) (by omega) (by omega) (fun j hj => by omega) (fun j hj => by omega)
    have hone := r2.one hF'
    obtain ⟨ki1, s1, s2⟩ := copyM hM fi1 (fun l3_161 v_kind_161 => (f_M_findKinds_L32 (nI C) (nI M) v_leads fu kk f (nI n0) (nI (nwc C ld ki M)) v_kind_161 fi1)) M 0 fu ki (by omega) (by omega) (fun j hj => by omega)
    have e : f_M_findKinds_L32 (nI C) (nI M) v_leads fu kk (f + 1) b (nI n0) ki fi = f_M_findKinds_L32 (nI C) (nI M) v_leads fu kk f (nI n0) (nI (nwc C ld K M)) ki1 fi1 := by
      rw [f_M_findKinds_L32_s, ifF hb]
      refine Eq.trans r1 (Eq.trans s1 ?_)
      rw [hnw]
    have hk1 : ∀ i, i < M → ki1 i = nI (fin i) := fun i hi => by rw [s2 i hi, r3 i hi, hone i hi]
    rw [e]
    rcases hE with ⟨h1, h2⟩ | ⟨h1, h2⟩
    · obtain ⟨f, rfl⟩ : ∃ g', f = g' + 1 := ⟨f - 1, by omega⟩
      have : nwc C ld K M = n0 := by omega
      rw [this, f_M_findKinds_L32_s, ifT rfl]
      exact ⟨_, _, ki1, fi1, rfl, fun i hi => by rw [hk1 i hi, h2 i hi]⟩
    · refine roundsM hM hC hld hl hfu kk g f (nwc C ld K M) (nI n0) (fun i => nI (fin i)) ki1 fi1 kn h2 (fun i hi => (hk1 i hi).symm) ?_ ?_ (by omega)
      · exact nwc_grow hF (fun i _ => rfl) (by omega)
      · intro q
        have := (nI_eq (by omega) (by omega)).mp q
        omega
end RO
