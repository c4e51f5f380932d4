/-! a round of kinds in the class -/
theorem nwc_sur {C : Nat} {ld : Nat → Nat → Nat} {K : Nat → Int32} : ∀ i k, k < nwc C ld K i → ∃ l, l < i ∧ isnew C ld K l ∧ nwc C ld K l = k
  | 0, k, h => by simp [nwc] at h
  | i + 1, k, h => by
    by_cases hn : isnew C ld K i
    · rw [nwc_new hn] at h
      by_cases e : k = nwc C ld K i
      · exact ⟨i, by omega, hn, e.symm⟩
      · obtain ⟨l, h1, h2⟩ := nwc_sur i k (show k < nwc C ld K i by omega)
        exact ⟨l, by omega, h2⟩
    · rw [nwc_old hn] at h
      obtain ⟨l, h1, h2⟩ := nwc_sur i k h
      exact ⟨l, by omega, h2⟩
section KC
variable {M C : Nat} {ld : Nat → Nat → Nat} {K : Nat → Int32} {ss_leads : Nat → Int32}
theorem kos_in (hM : M ≤ 120) {i : Nat} (hi : i < M) : f_Table_kindOfSet (nI i) K (nI M) = some (K i) := by
  unfold f_Table_kindOfSet
  have q : ¬ (120 : Int32) ≤ nI i := nI_ge (b := 120) (by omega) (by decide)
  rw [ifF (nI_pos (by omega)), ifF (nI_ge hi (by omega)), ifF q, ifT (inB_nI (by omega) (by omega)), nI_clamp (by omega)]
theorem glead_in (hM : M ≤ 120) (hC : C ≤ 95) (hl : ∀ i c, i < M → c < C → ss_leads (i * 95 + c) = nI (ld i c)) {i c : Nat} (hi : i < M) (hc : c < C) : f_Graph_lead (nI i) (nI c) (nI M) ss_leads (nI C) = some (nI (ld i c)) := by
  unfold f_Graph_lead
  have e : nI i * 95 + nI c = nI (i * 95 + c) := by
    rw [show (95 : Int32) = nI 95 from rfl, pk_mul, nI_add]
  have q : ¬ (11400 : Int32) ≤ nI (i * 95 + c) := nI_ge (b := 11400) (by omega) (by decide)
  rw [ifF (nI_pos (by omega)), ifF (nI_ge hi (by omega)), ifF (nI_pos (by omega)), ifT (nI_lt hc (by omega)), e, ifF q, ifT (inB_nI (by omega) (by omega)), nI_clamp (by omega), hl _ _ hi hc]
theorem ok_loop (hM : M ≤ 120) (hC : C ≤ 95) (hld : ∀ i c, i < M → c < C → ld i c < M) (hl : ∀ i c, i < M → c < C → ss_leads (i * 95 + c) = nI (ld i c)) {i j : Nat} (hi : i < M) (hj : j < M) (k0 k1 : Int32 → Option Int32) : ∀ (d c f : Nat), c + d = C → d < f → ((∀ x, c ≤ x → x < C → K (ld i x) = K (ld j x)) → f_Table_areOfOneKind_L17 K (nI M) ss_leads (nI C) (nI i) (nI j) k0 k1 f (nI c) = k0 (nI C)) ∧ ((¬ ∀ x, c ≤ x → x < C → K (ld i x) = K (ld j x)) → ∃ x, f_Table_areOfOneKind_L17 K (nI M) ss_leads (nI C) (nI i) (nI j) k0 k1 f (nI c) = k1 x)
  | 0, c, f, hc, hf => by
    obtain ⟨f, rfl⟩ : ∃ g, f = g + 1 := ⟨f - 1, by omega⟩
    have : c = C := by omega
    subst this
    rw [f_Table_areOfOneKind_L17_s, ifT (nI_le (Nat.le_refl _) (by omega))]
    exact ⟨fun _ => rfl, fun h => absurd (fun x a b => by omega) h⟩
  | d + 1, c, f, hc, hf => by
    obtain ⟨f, rfl⟩ : ∃ g, f = g + 1 := ⟨f - 1, by omega⟩
    obtain ⟨ih1, ih2⟩ := ok_loop hM hC hld hl hi hj k0 k1 d (c + 1) f (by omega) (by omega)
    have hcc : c < C := by omega
    have e : f_Table_areOfOneKind_L17 K (nI M) ss_leads (nI C) (nI i) (nI j) k0 k1 (f + 1) (nI c) = if nI (ld i c) = nI (ld j c) then f_Table_areOfOneKind_L17 K (nI M) ss_leads (nI C) (nI i) (nI j) k0 k1 f (nI (c + 1)) else if K (ld i c) = K (ld j c) then f_Table_areOfOneKind_L17 K (nI M) ss_leads (nI C) (nI i) (nI j) k0 k1 f (nI (c + 1)) else k1 (nI c) := by
      rw [f_Table_areOfOneKind_L17_s, ifF (nI_ge hcc (by omega)), glead_in hM hC hl hi hcc, glead_in hM hC hl hj hcc, nI_1]
      show (if nI (ld i c) = nI (ld j c) then f_Table_areOfOneKind_L17 K (nI M) ss_leads (nI C) (nI i) (nI j) k0 k1 f (nI (c + 1)) else Option.bind (f_Table_kindOfSet (nI (ld i c)) K (nI M)) fun r12 => Option.bind (f_Table_kindOfSet (nI (ld j c)) K (nI M)) fun r14 => if r12 = r14 then f_Table_areOfOneKind_L17 K (nI M) ss_leads (nI C) (nI i) (nI j) k0 k1 f (nI (c + 1)) else k1 (nI c)) = _
      rw [kos_in hM (hld i c hi hcc), kos_in hM (hld j c hj hcc)]
      rfl
    rw [e]
    have mv : (∀ x, c ≤ x → x < C → K (ld i x) = K (ld j x)) ↔ K (ld i c) = K (ld j c) ∧ ∀ x, c + 1 ≤ x → x < C → K (ld i x) = K (ld j x) := by
      constructor
      · intro h; exact ⟨h c (Nat.le_refl _) hcc, fun x a b => h x (by omega) b⟩
      · rintro ⟨h1, h2⟩ x a b
        by_cases z : x = c
        · subst z; exact h1
        · exact h2 x (by omega) b
    rw [mv]
    by_cases h1 : nI (ld i c) = nI (ld j c)
    · have h2 : K (ld i c) = K (ld j c) := by
        have := (nI_eq (by have := hld i c hi hcc; omega) (by have := hld j c hj hcc; omega)).mp h1
        rw [this]
      rw [ifT h1]
      exact ⟨fun h => ih1 h.2, fun h => ih2 (fun q => h ⟨h2, q⟩)⟩
    · rw [ifF h1]
      by_cases h2 : K (ld i c) = K (ld j c)
      · rw [ifT h2]
        exact ⟨fun h => ih1 h.2, fun h => ih2 (fun q => h ⟨h2, q⟩)⟩
      · rw [ifF h2]
        exact ⟨fun h => absurd h.1 h2, fun _ => ⟨_, rfl⟩⟩
theorem one_kind (hM : M ≤ 120) (hC : C ≤ 95) (hld : ∀ i c, i < M → c < C → ld i c < M) (hl : ∀ i c, i < M → c < C → ss_leads (i * 95 + c) = nI (ld i c)) {i j fu : Nat} (hi : i < M) (hj : j < M) (hfu : 100 ≤ fu) : (al C ld K i j → f_Table_areOfOneKind fu (nI i) (nI j) K (nI M) ss_leads (nI C) = some 1) ∧ (¬ al C ld K i j → f_Table_areOfOneKind fu (nI i) (nI j) K (nI M) ss_leads (nI C) = some 0) := by
  have e : f_Table_areOfOneKind fu (nI i) (nI j) K (nI M) ss_leads (nI C) = if K i = K j then f_Table_areOfOneKind_L17 K (nI M) ss_leads (nI C) (nI i) (nI j) (fun _ => some 1) (fun _ => some 0) fu (nI 0) else some 0 := by
    unfold f_Table_areOfOneKind
    rw [kos_in hM hi, kos_in hM hj]
    rfl
  obtain ⟨h1, h2⟩ := ok_loop hM hC hld hl hi hj (K := K) (fun _ => some 1) (fun _ => some 0) C 0 fu (by omega) (by omega)
  rw [e]
  constructor
  · rintro ⟨a, b⟩
    rw [ifT a]
    exact h1 (fun x _ hx => b x hx)
  · intro h
    by_cases a : K i = K j
    · rw [ifT a]
      obtain ⟨x, hx⟩ := h2 (fun q => h ⟨a, fun c hc => q c (Nat.zero_le _) hc⟩)
      exact hx
    · rw [ifF a]
theorem lead_loop (hM : M ≤ 120) (hC : C ≤ 95) (hld : ∀ i c, i < M → c < C → ld i c < M) (hl : ∀ i c, i < M → c < C → ss_leads (i * 95 + c) = nI (ld i c)) {i fu n : Nat} (hi : i < M) (hfu : 200 ≤ fu) (hn : n ≤ i) {lead : Nat → Int32} {le : Nat → Nat} (hle : ∀ k, k < n → le k < i ∧ lead k = nI (le k)) (kk : Int32 → Option (Int32 × Int32 × (Nat → Int32) × (Nat → Int32) × (Nat → Int32))) : ∀ (d k f : Nat), k + d = n → d < f → (∃ k0, k ≤ k0 ∧ k0 < n ∧ al C ld K (le k0) i ∧ f_Table_partByLeads_L23 K (nI M) ss_leads (nI C) (nI i) (nI n) lead fu kk f (nI k) = kk (nI k0)) ∨ ((∀ k0, k ≤ k0 → k0 < n → ¬ al C ld K (le k0) i) ∧ f_Table_partByLeads_L23 K (nI M) ss_leads (nI C) (nI i) (nI n) lead fu kk f (nI k) = kk (nI n))
  | 0, k, f, hk, hf => by
    obtain ⟨f, rfl⟩ : ∃ g, f = g + 1 := ⟨f - 1, by omega⟩
    have : k = n := by omega
    subst this
    refine Or.inr ⟨fun x a b => by omega, ?_⟩
    rw [f_Table_partByLeads_L23_s, ifT (nI_le (Nat.le_refl _) (by omega))]
  | d + 1, k, f, hk, hf => by
    obtain ⟨f, rfl⟩ : ∃ g, f = g + 1 := ⟨f - 1, by omega⟩
    obtain ⟨l1, l2⟩ := hle k (by omega)
    obtain ⟨o1, o2⟩ := one_kind (K := K) hM hC hld hl (i := le k) (j := i) (fu := fu) (by omega) hi (by omega)
    have e : ∀ v, f_Table_areOfOneKind fu (nI (le k)) (nI i) K (nI M) ss_leads (nI C) = some v → f_Table_partByLeads_L23 K (nI M) ss_leads (nI C) (nI i) (nI n) lead fu kk (f + 1) (nI k) = if v = 0 then f_Table_partByLeads_L23 K (nI M) ss_leads (nI C) (nI i) (nI n) lead fu kk f (nI (k + 1)) else kk (nI k) := by
      intro v hv
      rw [f_Table_partByLeads_L23_s, ifF (nI_ge (by omega) (by omega)), ifT (inB_nI (by omega) (by omega)), nI_clamp (by omega), l2, hv, nI_1]
      rfl
    by_cases ha : al C ld K (le k) i
    · rw [e 1 (o1 ha), ifF (by decide)]
      exact Or.inl ⟨k, Nat.le_refl _, by omega, ha, rfl⟩
    · rw [e 0 (o2 ha), ifT rfl]
      rcases lead_loop hM hC hld hl hi hfu hn hle kk d (k + 1) f (by omega) (by omega) with ⟨k0, a, b, c⟩ | ⟨a, b⟩
      · exact Or.inl ⟨k0, by omega, b, c⟩
      · refine Or.inr ⟨fun k0 x y => ?_, b⟩
        by_cases z : k0 = k
        · subst z; exact ha
        · exact a k0 (by omega) y
theorem part_loop (hM : M ≤ 120) (hC : C ≤ 95) (hld : ∀ i c, i < M → c < C → ld i c < M) (hl : ∀ i c, i < M → c < C → ss_leads (i * 95 + c) = nI (ld i c)) {fu : Nat} (hfu : 200 ≤ fu) (kk : Int32 → Int32 → (Nat → Int32) → (Nat → Int32) → Option (Int32 × Int32 × (Nat → Int32) × (Nat → Int32) × (Nat → Int32))) : ∀ (d i f : Nat) (fi lead : Nat → Int32) (fin : Nat → Nat), i + d = M → d < f → FN C ld K i fin → (∀ j, j < i → fi j = nI (fin j)) → (∀ l, l < i → isnew C ld K l → lead (nwc C ld K l) = nI l) →
    ∃ (fi' lead' : Nat → Int32) (fin' : Nat → Nat), f_Table_partByLeads_L4 K (nI M) ss_leads (nI C) fu kk f (nI i) (nI (nwc C ld K i)) fi lead = kk (nI M) (nI (nwc C ld K M)) fi' lead' ∧ FN C ld K M fin' ∧ (∀ j, j < M → fi' j = nI (fin' j))
  | 0, i, f, fi, lead, fin, hi, hf, hF, hfi, hle => by
    obtain ⟨f, rfl⟩ : ∃ g, f = g + 1 := ⟨f - 1, by omega⟩
    have : i = M := by omega
    subst this
    refine ⟨fi, lead, fin, ?_, hF, hfi⟩
    rw [f_Table_partByLeads_L4_s, ifT (nI_le (Nat.le_refl _) (by omega))]
  | d + 1, i, f, fi, lead, fin, hi, hf, hF, hfi, hle => by
    obtain ⟨f, rfl⟩ : ∃ g, f = g + 1 := ⟨f - 1, by omega⟩
    have hnw := nwc_le (C := C) (ld := ld) (K := K) i
    have hch : ∃ le : Nat → Nat, ∀ k, k < nwc C ld K i → le k < i ∧ isnew C ld K (le k) ∧ nwc C ld K (le k) = k := by
      refine ⟨fun k => if h : k < nwc C ld K i then Classical.choose (nwc_sur (C := C) (ld := ld) (K := K) i k h) else 0, fun k hk => ?_⟩
      simp only [dif_pos hk]
      exact Classical.choose_spec (nwc_sur (C := C) (ld := ld) (K := K) i k hk)
    obtain ⟨le, hle2⟩ := hch
    have hle3 : ∀ k, k < nwc C ld K i → le k < i ∧ lead k = nI (le k) := fun k hk => by
      obtain ⟨a, b, c⟩ := hle2 k hk
      refine ⟨a, ?_⟩
      have := hle (le k) a b
      rw [c] at this
      exact this
    have step : ∀ (v n' : Nat) (lead' : Nat → Int32), v < 120 → (v = nwc C ld K i → n' = nwc C ld K i + 1 ∧ lead' = upd lead v (nI i)) → (v ≠ nwc C ld K i → n' = nwc C ld K i ∧ lead' = lead) →
        f_Table_partByLeads_J48 (fun l2_4 l1_4 bb_finerKindOf_4 bb_leaderOf_4 => f_Table_partByLeads_L4 K (nI M) ss_leads (nI C) fu kk f l2_4 l1_4 bb_finerKindOf_4 bb_leaderOf_4) (nI v) (nI i) (nI (nwc C ld K i)) fi lead = f_Table_partByLeads_L4 K (nI M) ss_leads (nI C) fu kk f (nI (i + 1)) (nI n') (upd fi i (nI v)) lead' := by
      intro v n' lead' hv e1 e2
      unfold f_Table_partByLeads_J48
      by_cases z : v = nwc C ld K i
      · obtain ⟨rfl, rfl⟩ := e1 z
        subst z
        rw [ifT rfl, ifT (inB_nI hv (by omega)), ifT (inB_nI (by omega) (by omega)), nI_clamp (by omega), nI_clamp (by omega), nI_1, nI_1]
      · obtain ⟨rfl, rfl⟩ := e2 z
        rw [ifF (fun q => z ((nI_eq (by omega) (by omega)).mp q)), ifT (inB_nI (by omega) (by omega)), nI_clamp (by omega), nI_1]
    have q120 : ¬ (120 : Int32) ≤ nI i := nI_ge (b := 120) (by omega) (by decide)
    rw [f_Table_partByLeads_L4_s, ifF (nI_ge (by omega) (by omega)), ifF q120]
    rcases lead_loop (K := K) hM hC hld hl (i := i) (by omega) hfu hnw hle3 (fun l3_23 => (f_Table_partByLeads_J48 (fun l2_4 l1_4 bb_finerKindOf_4 bb_leaderOf_4 => f_Table_partByLeads_L4 K (nI M) ss_leads (nI C) fu kk f l2_4 l1_4 bb_finerKindOf_4 bb_leaderOf_4) l3_23 (nI i) (nI (nwc C ld K i)) fi lead)) (nwc C ld K i) 0 fu (by omega) (by omega) with ⟨k0, -, b, c, e⟩ | ⟨a, e⟩
    · obtain ⟨q1, q2, q3⟩ := hle2 k0 b
      have hno : ¬ isnew C ld K i := fun h => h (le k0) q1 c
      obtain ⟨fi', lead', fin', r1, r2, r3⟩ := part_loop hM hC hld hl hfu kk d (i + 1) f (upd fi i (nI k0)) lead (va_up fin i k0) (by omega) (by omega) (fun j hj => by
          by_cases z : j = i
          · subst z
            refine Or.inr ⟨le k0, q1, c, ?_⟩
            rw [up_s, up_n (by omega)]
            have := hF.at (le k0) q1 (le k0) q2 (al.rf _)
            omega
          · rcases hF j (by omega) with ⟨x, y⟩ | ⟨t, x, y, w⟩
            · exact Or.inl ⟨x, by rw [up_n z]; exact y⟩
            · exact Or.inr ⟨t, x, y, by rw [up_n z, up_n (by omega)]; exact w⟩) (fun j hj => by
          by_cases z : j = i
          · subst z; rw [pk_us, up_s]
          · rw [pk_un z, up_n z]; exact hfi j (by omega)) (fun l hl' hn => by
          by_cases z : l = i
          · subst z; exact absurd hn hno
          · exact hle l (by omega) hn)
      refine ⟨fi', lead', fin', ?_, r2, r3⟩
      refine Eq.trans e (Eq.trans (step k0 (nwc C ld K i) lead (by omega) (fun z => by omega) (fun _ => ⟨rfl, rfl⟩)) ?_)
      rw [nwc_old hno] at r1
      exact r1
    · have hnew : isnew C ld K i := fun t ht ha => by
        obtain ⟨l, x1, x2, x3⟩ := first_of (C := C) (ld := ld) (K := K) t
        have hlt := nwc_strict (C := C) (ld := ld) (K := K) (show l < i by omega) x2
        obtain ⟨y1, y2, y3⟩ := hle2 _ hlt
        have : le (nwc C ld K l) = l := by
          rcases Nat.lt_trichotomy (le (nwc C ld K l)) l with q | q | q
          · have := nwc_strict (C := C) (ld := ld) (K := K) q y2; omega
          · exact q
          · have := nwc_strict (C := C) (ld := ld) (K := K) q x2; omega
        exact a _ (Nat.zero_le _) hlt (by rw [this]; exact x3.tr ha)
      obtain ⟨fi', lead', fin', r1, r2, r3⟩ := part_loop hM hC hld hl hfu kk d (i + 1) f (upd fi i (nI (nwc C ld K i))) (upd lead (nwc C ld K i) (nI i)) (va_up fin i (nwc C ld K i)) (by omega) (by omega) (fun j hj => by
          by_cases z : j = i
          · subst z; exact Or.inl ⟨hnew, up_s⟩
          · rcases hF j (by omega) with ⟨x, y⟩ | ⟨t, x, y, w⟩
            · exact Or.inl ⟨x, by rw [up_n z]; exact y⟩
            · exact Or.inr ⟨t, x, y, by rw [up_n z, up_n (by omega)]; exact w⟩) (fun j hj => by
          by_cases z : j = i
          · subst z; rw [pk_us, up_s]
          · rw [pk_un z, up_n z]; exact hfi j (by omega)) (fun l hl' hn => by
          by_cases z : l = i
          · subst z; rw [pk_us]
          · have := nwc_strict (C := C) (ld := ld) (K := K) (show l < i by omega) hn
            rw [pk_un (by omega)]; exact hle l (by omega) hn)
      refine ⟨fi', lead', fin', ?_, r2, r3⟩
      refine Eq.trans e (Eq.trans (step (nwc C ld K i) (nwc C ld K i + 1) _ (by omega) (fun _ => ⟨rfl, rfl⟩) (fun z => absurd rfl z)) ?_)
      rw [nwc_new hnew] at r1
      exact r1
theorem part_ok (hM : M ≤ 120) (hC : C ≤ 95) (hld : ∀ i c, i < M → c < C → ld i c < M) (hl : ∀ i c, i < M → c < C → ss_leads (i * 95 + c) = nI (ld i c)) {fu : Nat} (hfu : 200 ≤ fu) (kc : Nat) (hkc : kc ≤ 1000) (fi lead : Nat → Int32) :
    ∃ (K' fi' lead' : Nat → Int32) (fin : Nat → Nat), f_Table_partByLeads fu (nI kc) K fi lead (nI M) ss_leads (nI C) = some (if nwc C ld K M ≤ kc then 0 else 1, nI (nwc C ld K M), K', fi', lead') ∧ FN C ld K M fin ∧ ∀ i, i < M → K' i = nI (fin i) := by
  obtain ⟨fi', lead', fin, r1, r2, r3⟩ := part_loop (K := K) hM hC hld hl hfu (fun l2_4 l1_4 bb_finerKindOf_4 bb_leaderOf_4 => (f_Table_partByLeads_J76 l1_4 (nI kc) K bb_finerKindOf_4 bb_leaderOf_4)) M 0 fu fi lead (fun _ => 0) (by omega) (by omega) (fun j hj => by omega) (fun j hj => by omega) (fun l hl' => by omega)
  have hnw := nwc_le (C := C) (ld := ld) (K := K) M
  refine ⟨va_cpy fi' K 0 0 120, fi', lead', fin, ?_, r2, fun i hi => ?_⟩
  · unfold f_Table_partByLeads
    refine Eq.trans r1 ?_
    unfold f_Table_partByLeads_J76
    by_cases h : nwc C ld K M ≤ kc
    · rw [if_pos h, ifT ((nI_leI (by omega) (by omega)).mpr h)]; rfl
    · rw [if_neg h, ifF (fun q => h ((nI_leI (by omega) (by omega)).mp q))]; rfl
  · rw [pk_cpy_in (by omega) (by omega), Nat.zero_add, Nat.sub_zero]
    exact r3 i hi
end KC
