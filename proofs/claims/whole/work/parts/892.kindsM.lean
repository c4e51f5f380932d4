/-! a round of kinds in the reference -/
section KM
variable {M C : Nat} {ld : Nat → Nat → Nat} {K : Nat → Int32} {v_leads : Nat → Int32}
theorem ia_loop (hM : M ≤ 120) (hC : C ≤ 95) (hld : ∀ i c, i < M → c < C → ld i c < M) (hl : ∀ i c, i < M → c < C → v_leads (96 * i + c) = nI (ld i c)) {i j : Nat} (hi : i < M) (hj : j < M) (kk : Int32 → Int32 → Option Int32) : ∀ (d c f : Nat), c + d = C → d + 1 < f → ((∀ x, c ≤ x → x < C → K (ld i x) = K (ld j x)) → f_M_isAlike_L24 (nI C) K v_leads (nI i) (nI j) kk f (nI c) 1 = kk (nI C) 1) ∧ ((¬ ∀ x, c ≤ x → x < C → K (ld i x) = K (ld j x)) → ∃ x, f_M_isAlike_L24 (nI C) K v_leads (nI i) (nI j) kk f (nI c) 1 = kk x 0)
  | 0, c, f, hc, hf => by
    obtain ⟨f, rfl⟩ : ∃ g, f = g + 1 := ⟨f - 1, by omega⟩
    have : c = C := by omega
    subst this
    rw [f_M_isAlike_L24_s, ifT (nI_le (Nat.le_refl _) (by omega))]
    exact ⟨fun _ => rfl, fun h => absurd (fun x a b => by omega) h⟩
  | d + 1, c, f, hc, hf => by
    obtain ⟨f, rfl⟩ : ∃ g, f = g + 1 := ⟨f - 1, by omega⟩
    obtain ⟨ih1, ih2⟩ := ia_loop hM hC hld hl hi hj kk d (c + 1) f (by omega) (by omega)
    have hcc : c < C := by omega
    have a1 := hld i c hi hcc
    have a2 := hld j c hj hcc
    have e1 : (96 : Int32) * nI i + nI c = nI (96 * i + c) := by rw [show (96 : Int32) = nI 96 from rfl, pk_mul, nI_add]
    have e2 : (96 : Int32) * nI j + nI c = nI (96 * j + c) := by rw [show (96 : Int32) = nI 96 from rfl, pk_mul, nI_add]
    have e : f_M_isAlike_L24 (nI C) K v_leads (nI i) (nI j) kk (f + 1) (nI c) 1 = if K (ld i c) = K (ld j c) then f_M_isAlike_L24 (nI C) K v_leads (nI i) (nI j) kk f (nI (c + 1)) 1 else f_M_isAlike_L24 (nI C) K v_leads (nI i) (nI j) kk f (nI (c + 1)) 0 := by
      rw [f_M_isAlike_L24_s, ifF (nI_ge hcc (by omega)), ifF (by decide), e1, e2, ifT (inB_nI (by omega) (by omega)), nI_clamp (n := 96 * i + c) (by omega), hl i c hi hcc, ifT (inB_nI (by omega) (by omega)), ifT (inB_nI (by omega) (by omega)), nI_clamp (n := 96 * j + c) (by omega), hl j c hj hcc, ifT (inB_nI (by omega) (by omega)), nI_clamp (n := ld i c) (by omega), nI_clamp (n := ld j c) (by omega), nI_1]
    have bad : ∀ y, ∃ x, f_M_isAlike_L24 (nI C) K v_leads (nI i) (nI j) kk f y 0 = kk x 0 := fun y => by
      obtain ⟨f, rfl⟩ : ∃ g, f = g + 1 := ⟨f - 1, by omega⟩
      rw [f_M_isAlike_L24_s]
      by_cases q : nI C ≤ y
      · exact ⟨y, by rw [ifT q]⟩
      · exact ⟨y, by rw [ifF q, ifT rfl]⟩
    rw [e]
    by_cases h2 : K (ld i c) = K (ld j c)
    · rw [ifT h2]
      refine ⟨fun h => ih1 (fun x a b => h x (by omega) b), fun h => ih2 (fun q => h (fun x a b => ?_))⟩
      by_cases z : x = c
      · subst z; exact h2
      · exact q x (by omega) b
    · rw [ifF h2]
      exact ⟨fun h => absurd (h c (Nat.le_refl _) hcc) h2, fun _ => bad _⟩
theorem is_alike (hM : M ≤ 120) (hC : C ≤ 95) (hld : ∀ i c, i < M → c < C → ld i c < M) (hl : ∀ i c, i < M → c < C → v_leads (96 * i + c) = nI (ld i c)) {i j fu : Nat} (hi : i < M) (hj : j < M) (hfu : 200 ≤ fu) : (al C ld K i j → f_M_isAlike fu (nI i) (nI j) (nI C) K v_leads = some 1) ∧ (¬ al C ld K i j → f_M_isAlike fu (nI i) (nI j) (nI C) K v_leads = some 0) := by
  have e : f_M_isAlike fu (nI i) (nI j) (nI C) K v_leads = if K i = K j then f_M_isAlike_J20 (nI C) K v_leads (nI i) (nI j) fu 1 else f_M_isAlike_J20 (nI C) K v_leads (nI i) (nI j) fu 0 := by
    unfold f_M_isAlike
    rw [ifT (inB_nI (by omega) (by omega)), ifT (inB_nI (by omega) (by omega)), nI_clamp (by omega), nI_clamp (by omega)]
  obtain ⟨h1, h2⟩ := ia_loop hM hC hld hl hi hj (K := K) (fun l4_24 l3_24 => (if (l3_24 = 0 ∨ l3_24 = 1) then some l3_24 else none)) C 0 fu (by omega) (by omega)
  rw [e]
  constructor
  · rintro ⟨a, b⟩
    rw [ifT a]
    exact h1 (fun x _ hx => b x hx)
  · intro h
    by_cases a : K i = K j
    · rw [ifT a]
      obtain ⟨x, hx⟩ := h2 (fun q => h ⟨a, fun c hc => q c (Nat.zero_le _) hc⟩)
      exact hx
    · rw [ifF a]
      obtain ⟨g, rfl⟩ : ∃ g, fu = g + 1 := ⟨fu - 1, by omega⟩
      unfold f_M_isAlike_J20
      rw [f_M_isAlike_L24_s]
      by_cases q : nI C ≤ 0
      · rw [ifT q]; rfl
      · rw [ifF q, ifT rfl]; rfl
theorem fk_in (hM : M ≤ 120) (hC : C ≤ 95) (hld : ∀ i c, i < M → c < C → ld i c < M) (hl : ∀ i c, i < M → c < C → v_leads (96 * i + c) = nI (ld i c)) {s fu : Nat} (hs : s < M) (hfu : 300 ≤ fu) {fin : Nat → Nat} (hlt : ∀ t, t < s → fin t < 1000) (kk : Int32 → (Nat → Int32) → Option ((Nat → Int32) × (Nat → Int32))) : ∀ (d t f : Nat) (fi : Nat → Int32), t + d = s → d + 1 < f → fi s = -1 → (∀ j, j < s → fi j = nI (fin j)) →
    ∃ (x : Int32) (fi' : Nat → Int32), f_M_findKinds_L61 (nI C) v_leads K (nI s) fu kk f (nI t) fi = kk x fi' ∧ (∀ j, j ≠ s → fi' j = fi j) ∧ ((∃ t0, t ≤ t0 ∧ t0 < s ∧ al C ld K s t0 ∧ fi' s = nI (fin t0)) ∨ ((∀ t0, t ≤ t0 → t0 < s → ¬ al C ld K s t0) ∧ fi' s = -1))
  | 0, t, f, fi, ht, hf, h1, h2 => by
    obtain ⟨f, rfl⟩ : ∃ g, f = g + 1 := ⟨f - 1, by omega⟩
    refine ⟨nI t, fi, ?_, fun _ _ => rfl, Or.inr ⟨fun t0 a b => by omega, h1⟩⟩
    rw [f_M_findKinds_L61_s, ifT (nI_le (by omega) (by omega))]
  | d + 1, t, f, fi, ht, hf, h1, h2 => by
    obtain ⟨f, rfl⟩ : ∃ g, f = g + 1 := ⟨f - 1, by omega⟩
    obtain ⟨o1, o2⟩ := is_alike (K := K) hM hC hld hl (i := s) (j := t) (fu := fu) hs (by omega) (by omega)
    have hneg : ¬ (0 : Int32) ≤ fi s := by rw [h1]; decide
    have e : ∀ v, f_M_isAlike fu (nI s) (nI t) (nI C) K v_leads = some v → f_M_findKinds_L61 (nI C) v_leads K (nI s) fu kk (f + 1) (nI t) fi = if v = 0 then f_M_findKinds_L61 (nI C) v_leads K (nI s) fu kk f (nI (t + 1)) (upd fi s (-1)) else f_M_findKinds_L61 (nI C) v_leads K (nI s) fu kk f (nI (t + 1)) (upd fi s (fi t)) := by
      intro v hv
      rw [f_M_findKinds_L61_s, ifF (nI_ge (by omega) (by omega)), ifT (inB_nI (by omega) (by omega)), nI_clamp (n := s) (by omega), ifF hneg, hv]
      show (if v = 0 then (if inB (nI s) 122 = true then f_M_findKinds_L61 (nI C) v_leads K (nI s) fu kk f (nI t + 1) (upd fi s (-1)) else none) else if inB (nI t) 122 = true then (if inB (nI s) 122 = true then f_M_findKinds_L61 (nI C) v_leads K (nI s) fu kk f (nI t + 1) (upd fi s (fi (nI t).toNatClampNeg)) else none) else none) = _
      rw [ifT (inB_nI (by omega) (by omega) : inB (nI s) 122 = true), ifT (inB_nI (by omega) (by omega) : inB (nI t) 122 = true), nI_clamp (n := t) (by omega), nI_1, ifT (inB_nI (by omega) (by omega) : inB (nI s) 122 = true)]
    by_cases ha : al C ld K s t
    · rw [e 1 (o1 ha), ifF (by decide)]
      obtain ⟨f, rfl⟩ : ∃ g, f = g + 1 := ⟨f - 1, by omega⟩
      refine ⟨nI (t + 1), upd fi s (fi t), ?_, fun j hj => pk_un hj, Or.inl ⟨t, Nat.le_refl _, by omega, ha, by rw [pk_us]; exact h2 t (by omega)⟩⟩
      rw [f_M_findKinds_L61_s]
      by_cases q : nI s ≤ nI (t + 1)
      · rw [ifT q]
      · rw [ifF q, ifT (inB_nI (by omega) (by omega)), nI_clamp (by omega), pk_us, h2 t (by omega), ifT (nI_pos' (by have := hlt t (by omega); omega))]
    · rw [e 0 (o2 ha), ifT rfl]
      obtain ⟨x, fi', r1, r2, r3⟩ := fk_in hM hC hld hl hs hfu hlt kk d (t + 1) f (upd fi s (-1)) (by omega) (by omega) pk_us (fun j hj => by rw [pk_un (by omega)]; exact h2 j hj)
      refine ⟨x, fi', r1, fun j hj => by rw [r2 j hj, pk_un hj], ?_⟩
      rcases r3 with ⟨t0, a, b, c⟩ | ⟨a, b⟩
      · exact Or.inl ⟨t0, by omega, b, c⟩
      · refine Or.inr ⟨fun t0 x1 x2 => ?_, b⟩
        by_cases z : t0 = t
        · subst z; exact ha
        · exact a t0 (by omega) x2
theorem fk_round (hM : M ≤ 120) (hC : C ≤ 95) (hld : ∀ i c, i < M → c < C → ld i c < M) (hl : ∀ i c, i < M → c < C → v_leads (96 * i + c) = nI (ld i c)) {fu : Nat} (hfu : 300 ≤ fu) (kk : Int32 → Int32 → (Nat → Int32) → Option ((Nat → Int32) × (Nat → Int32))) : ∀ (d s f : Nat) (fi : Nat → Int32) (fin : Nat → Nat), s + d = M → d < f → FN C ld K s fin → (∀ j, j < s → fi j = nI (fin j)) →
    ∃ (fi' : Nat → Int32) (fin' : Nat → Nat), f_M_findKinds_L43 (nI C) (nI M) v_leads K fu kk f (nI s) (nI (nwc C ld K s)) fi = kk (nI M) (nI (nwc C ld K M)) fi' ∧ FN C ld K M fin' ∧ ∀ j, j < M → fi' j = nI (fin' j)
  | 0, s, f, fi, fin, hs, hf, hF, hfi => by
    obtain ⟨f, rfl⟩ : ∃ g, f = g + 1 := ⟨f - 1, by omega⟩
    have : s = M := by omega
    subst this
    refine ⟨fi, fin, ?_, hF, hfi⟩
    rw [f_M_findKinds_L43_s, ifT (nI_le (Nat.le_refl _) (by omega))]
  | d + 1, s, f, fi, fin, hs, hf, hF, hfi => by
    obtain ⟨f, rfl⟩ : ∃ g, f = g + 1 := ⟨f - 1, by omega⟩
    have hnw := nwc_le (C := C) (ld := ld) (K := K) s
    have hlt : ∀ t, t < s → fin t < 1000 := fun t ht => by have := hF.lt ht; omega
    obtain ⟨x, fi1, r1, r2, r3⟩ := fk_in (K := K) hM hC hld hl (s := s) (by omega) hfu hlt (fun l4_61 v_finer_61 => (f_M_findKinds_J109 (fun l3_43 l1_43 v_finer_43 => f_M_findKinds_L43 (nI C) (nI M) v_leads K fu kk f l3_43 l1_43 v_finer_43) (nI s) (nI (nwc C ld K s)) v_finer_61)) s 0 fu (upd fi s (-1)) (by omega) (by omega) pk_us (fun j hj => by rw [pk_un (by omega)]; exact hfi j hj)
    have e0 : f_M_findKinds_L43 (nI C) (nI M) v_leads K fu kk (f + 1) (nI s) (nI (nwc C ld K s)) fi = f_M_findKinds_J109 (fun l3_43 l1_43 v_finer_43 => f_M_findKinds_L43 (nI C) (nI M) v_leads K fu kk f l3_43 l1_43 v_finer_43) (nI s) (nI (nwc C ld K s)) fi1 := by
      rw [f_M_findKinds_L43_s, ifF (nI_ge (by omega) (by omega)), ifT (inB_nI (by omega) (by omega)), nI_clamp (by omega)]
      exact r1
    rw [e0]
    have b1 : inB (nI s) 122 = true := inB_nI (by omega) (by omega)
    rcases r3 with ⟨t0, -, b, c, e⟩ | ⟨a, e⟩
    · have hno : ¬ isnew C ld K s := fun h => h t0 b c.sm
      have hp : (0 : Int32) ≤ fi1 s := by rw [e]; exact nI_pos' (by have := hlt t0 b; omega)
      have e1 : f_M_findKinds_J109 (fun l3_43 l1_43 v_finer_43 => f_M_findKinds_L43 (nI C) (nI M) v_leads K fu kk f l3_43 l1_43 v_finer_43) (nI s) (nI (nwc C ld K s)) fi1 = f_M_findKinds_L43 (nI C) (nI M) v_leads K fu kk f (nI (s + 1)) (nI (nwc C ld K (s + 1))) (upd fi1 s (fi1 s)) := by
        unfold f_M_findKinds_J109 f_M_findKinds_J125
        rw [nI_clamp (by omega), ifT b1, ifT hp, ifT b1, ifT hp, ifT b1, ifT b1, nI_1, nwc_old hno]
      rw [e1]
      refine fk_round hM hC hld hl hfu kk d (s + 1) f _ (va_up fin s (fin t0)) (by omega) (by omega) (fun j hj => ?_) (fun j hj => ?_)
      · by_cases z : j = s
        · subst z; exact Or.inr ⟨t0, b, c.sm, by rw [up_s, up_n (by omega)]⟩
        · rcases hF j (by omega) with ⟨x, y⟩ | ⟨t, x, y, w⟩
          · exact Or.inl ⟨x, by rw [up_n z]; exact y⟩
          · exact Or.inr ⟨t, x, y, by rw [up_n z, up_n (by omega)]; exact w⟩
      · by_cases z : j = s
        · subst z; rw [pk_us, up_s, e]
        · rw [pk_un z, up_n z, r2 j z, pk_un z]; exact hfi j (by omega)
    · have hnew : isnew C ld K s := fun t ht ha => a t (Nat.zero_le _) ht ha.sm
      have hp : ¬ (0 : Int32) ≤ fi1 s := by rw [e]; decide
      have e1 : f_M_findKinds_J109 (fun l3_43 l1_43 v_finer_43 => f_M_findKinds_L43 (nI C) (nI M) v_leads K fu kk f l3_43 l1_43 v_finer_43) (nI s) (nI (nwc C ld K s)) fi1 = f_M_findKinds_L43 (nI C) (nI M) v_leads K fu kk f (nI (s + 1)) (nI (nwc C ld K (s + 1))) (upd fi1 s (nI (nwc C ld K s))) := by
        unfold f_M_findKinds_J109 f_M_findKinds_J125
        rw [nI_clamp (by omega), ifT b1, ifF hp, ifT b1, ifF hp, ifT b1, nI_1, nI_1, nI_pred, nwc_new hnew]
      rw [e1]
      refine fk_round hM hC hld hl hfu kk d (s + 1) f _ (va_up fin s (nwc C ld K s)) (by omega) (by omega) (fun j hj => ?_) (fun j hj => ?_)
      · by_cases z : j = s
        · subst z; exact Or.inl ⟨hnew, up_s⟩
        · rcases hF j (by omega) with ⟨x, y⟩ | ⟨t, x, y, w⟩
          · exact Or.inl ⟨x, by rw [up_n z]; exact y⟩
          · exact Or.inr ⟨t, x, y, by rw [up_n z, up_n (by omega)]; exact w⟩
      · by_cases z : j = s
        · subst z; rw [pk_us, up_s]
        · rw [pk_un z, up_n z, r2 j z, pk_un z]; exact hfi j (by omega)
end KM
