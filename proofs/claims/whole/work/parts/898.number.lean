/-! numbering states, both sides: from the states so far, by columns in the class, by bytes in the reference -/
section NU
variable (kn : Nat → Nat) (ld : Nat → Nat → Nat) (C : Nat)
def outq : Nat → Nat → VQ → VQ
  | 0, _, q => q
  | g + 1, s, q => if q.1 ≤ s then q else outq g (s + 1) (visN kn (ld (q.2.2 s)) q C)
variable {kn ld C}
theorem vis_so {x s : Nat} {q : VQ} (h : s < q.1) : (vis kn x q).2.2 s = q.2.2 s ∧ q.1 ≤ (vis kn x q).1 := by
  cases h2 : q.2.1 (kn x) with
  | some w => rw [vis_some h2]; exact ⟨rfl, Nat.le_refl _⟩
  | none =>
    rw [vis_none h2]
    exact ⟨up_n (by omega), Nat.le_succ _⟩
theorem visN_so {xs : Nat → Nat} {s : Nat} {q : VQ} (h : s < q.1) : ∀ n, (visN kn xs q n).2.2 s = q.2.2 s ∧ q.1 ≤ (visN kn xs q n).1
  | 0 => ⟨rfl, Nat.le_refl _⟩
  | n + 1 => by
    obtain ⟨a, b⟩ := visN_so (xs := xs) h n
    obtain ⟨c, d⟩ := vis_so (kn := kn) (x := xs n) (q := visN kn xs q n) (show s < (visN kn xs q n).1 by omega)
    exact ⟨c.trans a, by show q.1 ≤ (vis kn (xs n) (visN kn xs q n)).1; omega⟩
theorem WQ.visN {M : Nat} {xs : Nat → Nat} {q : VQ} (h : WQ M kn q) : ∀ n, (∀ c, c < n → xs c < M) → WQ M kn (visN kn xs q n)
  | 0, _ => h
  | n + 1, hx => (WQ.visN h n (fun c hc => hx c (by omega))).vis (hx n (by omega))
theorem WQ.le {M : Nat} (hk : ∀ i, i < M → kn i < M) {q : VQ} (h : WQ M kn q) : q.1 ≤ M :=
  inj_le M q.1 (fun s => kn (q.2.2 s)) (fun i hi => hk _ (h.1 i hi).1) (fun i j hi hj e => by
    have a := (h.1 i hi).2
    have e' : kn (q.2.2 i) = kn (q.2.2 j) := e
    rw [e', (h.1 j hj).2] at a
    exact (Option.some.inj a).symm)
theorem outq_ok {M : Nat} (hk : ∀ i, i < M → kn i < M) (hld : ∀ i c, i < M → c < C → ld i c < M) : ∀ (g s : Nat) (q : VQ), WQ M kn q → M ≤ g + s → (∀ s', s' < s → s' < q.1 → ∀ c, c < C → ∃ v, q.2.1 (kn (ld (q.2.2 s') c)) = some v) → WQ M kn (outq kn ld C g s q) ∧ q.1 ≤ (outq kn ld C g s q).1 ∧ ∀ s', s' < (outq kn ld C g s q).1 → ∀ c, c < C → ∃ v, (outq kn ld C g s q).2.1 (kn (ld ((outq kn ld C g s q).2.2 s') c)) = some v
  | 0, s, q, hW, hg, hc => by
    have := hW.le hk
    exact ⟨hW, Nat.le_refl _, fun s' h' c h => hc s' (by have h'' : s' < q.1 := h'; omega) h' c h⟩
  | g + 1, s, q, hW, hg, hc => by
    by_cases z : q.1 ≤ s
    · have e : outq kn ld C (g + 1) s q = q := by rw [outq, if_pos z]
      rw [e]
      exact ⟨hW, Nat.le_refl _, fun s' h' c h => hc s' (by omega) h' c h⟩
    · have e : outq kn ld C (g + 1) s q = outq kn ld C g (s + 1) (visN kn (ld (q.2.2 s)) q C) := by rw [outq, if_neg z]
      have hs := (hW.1 s (by omega)).1
      have hW' := hW.visN (xs := ld (q.2.2 s)) C (fun c h => hld _ c hs h)
      obtain ⟨a, b, c⟩ := outq_ok hk hld g (s + 1) (visN kn (ld (q.2.2 s)) q C) hW' (by omega) (fun s' h1 h2 c hcc => by
        have hs' : s' < q.1 := by omega
        rw [(visN_so (kn := kn) (xs := ld (q.2.2 s)) hs' C).1]
        by_cases z2 : s' = s
        · subst z2; exact visN_seen C c hcc
        · obtain ⟨v, hv⟩ := hc s' (by omega) hs' c hcc
          exact ⟨v, visN_keep hv C⟩)
      rw [e]
      have := (visN_so (kn := kn) (xs := ld (q.2.2 s)) (show s < q.1 by omega) C).2
      exact ⟨a, by omega, c⟩
/-! the class -/
section NC
variable {M fu : Nat} {K pm : Nat → Int32} {ss_found : Nat → Int64} {ss_leads : Nat → Int32} {zz_ruleCount : Int32} {zz_endsOf : Nat → Int64} {zz_allowedBy zz_deniedBy : Nat → Int32}
theorem numC_in (hM : M ≤ 120) (hC : C ≤ 95) (hk : ∀ i, i < M → kn i < M) (hld : ∀ i c, i < M → c < C → ld i c < M) (hl : ∀ i c, i < M → c < C → ss_leads (i * 95 + c) = nI (ld i c)) (hK : ∀ i, i < M → K i = nI (kn i)) (hpm : ∀ i, i < M → f_Graph_permissionsOf fu (nI i) (nI M) ss_found zz_ruleCount zz_endsOf zz_allowedBy zz_deniedBy = some (pm i)) {q : VQ} (hW : WQ M kn q) {s : Nat} (hs : s < q.1) (kk : Int32 → Int32 → (Nat → Int32) → (Nat → Int32) → (Nat → Int32) → Option (Int32 × (Nat → Int32) × (Nat → Int32) × (Nat → Int32))) : ∀ (d c f : Nat) (sc : Int32) (sk so pe : Nat → Int32), c + d = C → d < f → RpC pm (visN kn (ld (q.2.2 s)) q c) sc sk so pe →
    ∃ (sc' : Int32) (sk' so' pe' : Nat → Int32), f_Table_numberStates_L31 K (nI M) ss_found ss_leads zz_ruleCount (nI C) zz_endsOf zz_allowedBy zz_deniedBy (nI s) fu kk f (nI c) sc sk so pe = kk (nI C) sc' sk' so' pe' ∧ RpC pm (visN kn (ld (q.2.2 s)) q C) sc' sk' so' pe'
  | 0, c, f, sc, sk, so, pe, hc, hf, hR => by
    obtain ⟨f, rfl⟩ : ∃ g, f = g + 1 := ⟨f - 1, by omega⟩
    have : c = C := by omega
    subst this
    exact ⟨sc, sk, so, pe, by rw [f_Table_numberStates_L31_s, ifT (nI_le (Nat.le_refl _) (by omega))], hR⟩
  | d + 1, c, f, sc, sk, so, pe, hc, hf, hR => by
    obtain ⟨f, rfl⟩ : ∃ g, f = g + 1 := ⟨f - 1, by omega⟩
    have hsM := hW.le hk
    have hx := (hW.1 s hs).1
    obtain ⟨v1, v2⟩ := visN_so (kn := kn) (xs := ld (q.2.2 s)) hs c
    have hso : so s = nI (q.2.2 s) := by rw [(hR.2.2 s (by omega)).1, v1]
    have hWc := hW.visN (xs := ld (q.2.2 s)) c (fun x h => hld _ x hx (by omega))
    have hlx := hld (q.2.2 s) c hx (by omega)
    obtain ⟨sc1, sk1, so1, pe1, e1, hR1⟩ := give_ok (fu := fu) hM hk hK hpm hWc hR hlx
    obtain ⟨sc', sk', so', pe', e2, hR'⟩ := numC_in hM hC hk hld hl hK hpm hW hs kk d (c + 1) f sc1 sk1 so1 pe1 (by omega) (by omega) hR1
    refine ⟨sc', sk', so', pe', ?_, hR'⟩
    rw [f_Table_numberStates_L31_s, ifF (nI_ge (by omega) (by omega)), ifT (inB_nI (by omega) (by omega)), nI_clamp (by omega), hso, glead_in hM hC hl hx (by omega), nI_1]
    refine Eq.trans ?_ e2
    show Option.bind (f_Table_giveNumber fu (nI (ld (q.2.2 s) c)) sc K sk so pe (nI M) ss_found zz_ruleCount zz_endsOf zz_allowedBy zz_deniedBy) _ = _
    rw [e1]
    rfl
theorem numC_out (hM : M ≤ 120) (hC : C ≤ 95) (hk : ∀ i, i < M → kn i < M) (hld : ∀ i c, i < M → c < C → ld i c < M) (hl : ∀ i c, i < M → c < C → ss_leads (i * 95 + c) = nI (ld i c)) (hK : ∀ i, i < M → K i = nI (kn i)) (hpm : ∀ i, i < M → f_Graph_permissionsOf fu (nI i) (nI M) ss_found zz_ruleCount zz_endsOf zz_allowedBy zz_deniedBy = some (pm i)) (hfu : 100 ≤ fu) (kk : Int32 → Int32 → (Nat → Int32) → (Nat → Int32) → (Nat → Int32) → Option (Int32 × (Nat → Int32) × (Nat → Int32) × (Nat → Int32))) : ∀ (g s f : Nat) (q : VQ) (sc : Int32) (sk so pe : Nat → Int32), M ≤ g + s → s ≤ M → g < f → WQ M kn q → RpC pm q sc sk so pe →
    ∃ (x sc' : Int32) (sk' so' pe' : Nat → Int32), f_Table_numberStates_L15 K (nI M) ss_found ss_leads zz_ruleCount (nI C) zz_endsOf zz_allowedBy zz_deniedBy fu kk f (nI s) sc sk so pe = kk x sc' sk' so' pe' ∧ RpC pm (outq kn ld C g s q) sc' sk' so' pe'
  | 0, s, f, q, sc, sk, so, pe, hg, hs, hf, hW, hR => by
    obtain ⟨f, rfl⟩ : ∃ g, f = g + 1 := ⟨f - 1, by omega⟩
    have := hW.le hk
    refine ⟨nI s, sc, sk, so, pe, ?_, hR⟩
    rw [f_Table_numberStates_L15_s, ifT (by rw [hR.1]; exact nI_le (by omega) (by omega))]
  | g + 1, s, f, q, sc, sk, so, pe, hg, hs, hf, hW, hR => by
    obtain ⟨f, rfl⟩ : ∃ g, f = g + 1 := ⟨f - 1, by omega⟩
    have hqM := hW.le hk
    by_cases z : q.1 ≤ s
    · have e : outq kn ld C (g + 1) s q = q := by rw [outq, if_pos z]
      rw [e]
      refine ⟨nI s, sc, sk, so, pe, ?_, hR⟩
      rw [f_Table_numberStates_L15_s, ifT (by rw [hR.1]; exact nI_le (by omega) (by omega))]
    · have e : outq kn ld C (g + 1) s q = outq kn ld C g (s + 1) (visN kn (ld (q.2.2 s)) q C) := by rw [outq, if_neg z]
      rw [e]
      have hx := (hW.1 s (by omega)).1
      have hW' := hW.visN (xs := ld (q.2.2 s)) C (fun c h => hld _ c hx h)
      obtain ⟨sc1, sk1, so1, pe1, e1, hR1⟩ := numC_in hM hC hk hld hl hK hpm hW (s := s) (by omega) (fun l2_31 bb_stateCount_31 bb_stateOfKind_31 bb_setOfState_31 bb_permissionsOf_31 => (f_Table_numberStates_L15 K (nI M) ss_found ss_leads zz_ruleCount (nI C) zz_endsOf zz_allowedBy zz_deniedBy fu kk f (nI s + 1) bb_stateCount_31 bb_stateOfKind_31 bb_setOfState_31 bb_permissionsOf_31)) C 0 fu sc sk so pe (by omega) (by omega) hR
      obtain ⟨x, sc', sk', so', pe', e2, hR'⟩ := numC_out hM hC hk hld hl hK hpm hfu kk g (s + 1) f _ sc1 sk1 so1 pe1 (by omega) (by omega) (by omega) hW' hR1
      refine ⟨x, sc', sk', so', pe', ?_, hR'⟩
      have q2 : ¬ (120 : Int32) ≤ nI s := nI_ge (b := 120) (by omega) (by decide)
      rw [f_Table_numberStates_L15_s, ifF (by rw [hR.1]; exact nI_ge (by omega) (by omega)), ifF q2]
      refine Eq.trans e1 ?_
      show f_Table_numberStates_L15 K (nI M) ss_found ss_leads zz_ruleCount (nI C) zz_endsOf zz_allowedBy zz_deniedBy fu kk f (nI s + 1) sc1 sk1 so1 pe1 = _
      rw [nI_1]
      exact e2
/-- where the numbering begins -/
def q0 : VQ := (0, fun _ => none, fun _ => 0)
theorem WQ0 (M : Nat) (kn : Nat → Nat) : WQ M kn q0 := ⟨fun s hs => absurd hs (Nat.not_lt_zero _), fun k v h => by cases h⟩
theorem numC_ok (hM : M ≤ 120) (hM1 : 1 ≤ M) (hC : C ≤ 95) (hk : ∀ i, i < M → kn i < M) (hld : ∀ i c, i < M → c < C → ld i c < M) (hl : ∀ i c, i < M → c < C → ss_leads (i * 95 + c) = nI (ld i c)) (hK : ∀ i, i < M → K i = nI (kn i)) (hpm : ∀ i, i < M → f_Graph_permissionsOf fu (nI i) (nI M) ss_found zz_ruleCount zz_endsOf zz_allowedBy zz_deniedBy = some (pm i)) (hfu : 200 ≤ fu) (sk so pe : Nat → Int32) :
    ∃ (sc' : Int32) (sk' so' pe' : Nat → Int32), f_Table_numberStates fu 0 K sk so pe (nI M) ss_found ss_leads zz_ruleCount (nI C) zz_endsOf zz_allowedBy zz_deniedBy = some (sc', sk', so', pe') ∧ RpC pm (outq kn ld C M 0 (vis kn 0 q0)) sc' sk' so' pe' := by
  obtain ⟨a', r1, r2, r3⟩ := fillI_ok (N := 120) (fu := fu) (by omega) (by omega) (-1) sk
  have hR0 : RpC pm q0 0 a' so pe := ⟨rfl, fun k hk => r2 k hk, fun s hs => absurd hs (Nat.not_lt_zero _)⟩
  obtain ⟨sc1, sk1, so1, pe1, e1, hR1⟩ := give_ok (fu := fu) hM hk hK hpm (WQ0 M kn) hR0 (x := 0) (by omega)
  have hW1 := (WQ0 M kn).vis (x := 0) (by omega)
  obtain ⟨x, sc', sk', so', pe', e2, hR'⟩ := numC_out hM hC hk hld hl hK hpm (by omega) (fun l1_15 bb_stateCount_15 bb_stateOfKind_15 bb_setOfState_15 bb_permissionsOf_15 => some (bb_stateCount_15, bb_stateOfKind_15, bb_setOfState_15, bb_permissionsOf_15)) M 0 fu _ sc1 sk1 so1 pe1 (by omega) (by omega) (by omega) hW1 hR1
  refine ⟨sc', sk', so', pe', ?_, hR'⟩
  unfold f_Table_numberStates
  rw [r1]
  show Option.bind (f_Table_giveNumber fu (nI 0) 0 K a' so pe (nI M) ss_found zz_ruleCount zz_endsOf zz_allowedBy zz_deniedBy) _ = _
  rw [e1]
  exact e2
end NC
/-! the reference -/
def RpM (q : VQ) (sc : Int32) (sk so : Nat → Int32) : Prop := sc = nI q.1 ∧ (∀ k, k < 122 → sk k = skv (q.2.1 k)) ∧ ∀ s, s < q.1 → so s = nI (q.2.2 s)
section NM
variable {M fu : Nat} {K : Nat → Int32} {co : Nat → Nat} {v_classOf v_leads : Nat → Int32}
theorem skv_pos {q : VQ} {M : Nat} (hM : M ≤ 120) (hk : ∀ i, i < M → kn i < M) (hW : WQ M kn q) {k v : Nat} (h : q.2.1 k = some v) : 0 ≤ skv (q.2.1 k) := by
  rw [h]
  have := hW.2 k v h
  have := hW.le hk
  exact nI_pos' (by omega)
theorem numM_in (hM : M ≤ 120) (hC : C ≤ 95) (hk : ∀ i, i < M → kn i < M) (hld : ∀ i c, i < M → c < C → ld i c < M) (hl : ∀ i c, i < M → c < C → v_leads (96 * i + c) = nI (ld i c)) (hK : ∀ i, i < M → K i = nI (kn i)) (hco : ColsOK co C) (hcl : ∀ b, b < 256 → v_classOf b = nI (co b)) {q : VQ} (hW : WQ M kn q) {s : Nat} (hs : s < q.1) (kk : Int32 → Int32 → (Nat → Int32) → (Nat → Int32) → Option (Int32 × (Nat → Int32) × (Nat → Int32))) : ∀ (d b f : Nat) (sc : Int32) (sk so : Nat → Int32), b + d = 256 → d < f → RpM (visN kn (ld (q.2.2 s)) q (mcol co b)) sc sk so →
    ∃ (sc' : Int32) (sk' so' : Nat → Int32), f_M_number_L57 v_classOf K v_leads (nI s) kk f (nI b) sc sk so = kk (nI 256) sc' sk' so' ∧ RpM (visN kn (ld (q.2.2 s)) q C) sc' sk' so'
  | 0, b, f, sc, sk, so, hb, hf, hR => by
    obtain ⟨f, rfl⟩ : ∃ g, f = g + 1 := ⟨f - 1, by omega⟩
    have : b = 256 := by omega
    subst this
    rw [hco.2] at hR
    exact ⟨sc, sk, so, by rw [f_M_number_L57_s, ifT (by decide)], hR⟩
  | d + 1, b, f, sc, sk, so, hb, hf, hR => by
    obtain ⟨f, rfl⟩ : ∃ g, f = g + 1 := ⟨f - 1, by omega⟩
    have hsM := hW.le hk
    have hx := (hW.1 s hs).1
    have hcb := co_lt hco (show b < 256 by omega)
    have hmc : mcol co b ≤ C := by
      have := mcol_mono co b 256 (by omega)
      rw [hco.2] at this
      exact this
    obtain ⟨v1, v2⟩ := visN_so (kn := kn) (xs := ld (q.2.2 s)) hs (mcol co b)
    have hso : so s = nI (q.2.2 s) := by rw [hR.2.2 s (by omega), v1]
    have hWc := hW.visN (xs := ld (q.2.2 s)) (mcol co b) (fun x h => hld _ x hx (by omega))
    have hlx := hld (q.2.2 s) (co b) hx hcb
    have hkx := hk _ hlx
    have hQM := hWc.le hk
    have hvb := vis_byte (kn := kn) (xs := ld (q.2.2 s)) (q := q) hco (show b < 256 by omega)
    have q1 : ¬ (256 : Int32) ≤ nI b := nI_ge (b := 256) (by omega) (by decide)
    have e : (96 : Int32) * nI (q.2.2 s) + nI (co b) = nI (96 * q.2.2 s + co b) := by
      rw [show (96 : Int32) = nI 96 from rfl, pk_mul, nI_add]
    rw [f_M_number_L57_s, ifF q1, ifT (inB_nI (by omega) (by omega)), ifT (inB_nI (by omega) (by omega)), nI_clamp (n := s) (by omega), nI_clamp (n := b) (by omega), hso, hcl b (by omega), e, ifT (inB_nI (by omega) (by omega)), nI_clamp (n := 96 * q.2.2 s + co b) (by omega), hl _ _ hx hcb, ifT (inB_nI (by omega) (by omega)), nI_clamp (n := ld (q.2.2 s) (co b)) (by omega), hK _ hlx, ifT (inB_nI (by omega) (by omega)), nI_clamp (n := kn (ld (q.2.2 s) (co b))) (by omega), hR.2.1 _ (by omega)]
    cases hq : (visN kn (ld (q.2.2 s)) q (mcol co b)).2.1 (kn (ld (q.2.2 s) (co b))) with
    | some v =>
      have hv := hWc.2 _ v hq
      have hp : (0 : Int32) ≤ skv (some v) := nI_pos' (by omega)
      rw [ifT hp, nI_1]
      refine numM_in hM hC hk hld hl hK hco hcl hW hs kk d (b + 1) f sc sk so (by omega) (by omega) ?_
      rw [← hvb, vis_some hq]
      exact hR
    | none =>
      have hp : ¬ (0 : Int32) ≤ skv none := by decide
      have hlt := hWc.lt hk hlx hq
      rw [ifF hp, ifT (inB_nI (by omega) (by omega)), ifT (inB_nI (by omega) (by omega)), hR.1, ifT (inB_nI (by omega) (by omega)), nI_clamp (by omega), nI_1, nI_1]
      refine numM_in hM hC hk hld hl hK hco hcl hW hs kk d (b + 1) f _ _ _ (by omega) (by omega) ?_
      rw [← hvb, vis_none hq]
      refine ⟨rfl, fun k hk' => ?_, fun s' hs' => ?_⟩
      · show upd sk (kn (ld (q.2.2 s) (co b))) (nI (visN kn (ld (q.2.2 s)) q (mcol co b)).1) k = skv (va_up (visN kn (ld (q.2.2 s)) q (mcol co b)).2.1 (kn (ld (q.2.2 s) (co b))) (some (visN kn (ld (q.2.2 s)) q (mcol co b)).1) k)
        by_cases z : k = kn (ld (q.2.2 s) (co b))
        · subst z; rw [pk_us, up_s]; rfl
        · rw [pk_un z, up_n z]; exact hR.2.1 k hk'
      · show upd so (visN kn (ld (q.2.2 s)) q (mcol co b)).1 (nI (ld (q.2.2 s) (co b))) s' = nI (va_up (visN kn (ld (q.2.2 s)) q (mcol co b)).2.2 (visN kn (ld (q.2.2 s)) q (mcol co b)).1 (ld (q.2.2 s) (co b)) s')
        have hs'' : s' < (visN kn (ld (q.2.2 s)) q (mcol co b)).1 + 1 := hs'
        by_cases z : s' = (visN kn (ld (q.2.2 s)) q (mcol co b)).1
        · subst z; rw [pk_us, up_s]
        · rw [pk_un z, up_n z]; exact hR.2.2 s' (by omega)
theorem numM_out (hM : M ≤ 120) (hC : C ≤ 95) (hk : ∀ i, i < M → kn i < M) (hld : ∀ i c, i < M → c < C → ld i c < M) (hl : ∀ i c, i < M → c < C → v_leads (96 * i + c) = nI (ld i c)) (hK : ∀ i, i < M → K i = nI (kn i)) (hco : ColsOK co C) (hcl : ∀ b, b < 256 → v_classOf b = nI (co b)) (hfu : 300 ≤ fu) (kk : Int32 → Int32 → (Nat → Int32) → (Nat → Int32) → Option (Int32 × (Nat → Int32) × (Nat → Int32))) : ∀ (g s f : Nat) (q : VQ) (sc : Int32) (sk so : Nat → Int32), M ≤ g + s → s ≤ M → g < f → WQ M kn q → RpM q sc sk so →
    ∃ (x sc' : Int32) (sk' so' : Nat → Int32), f_M_number_L47 v_classOf K v_leads fu kk f (nI s) sc sk so = kk x sc' sk' so' ∧ RpM (outq kn ld C g s q) sc' sk' so'
  | 0, s, f, q, sc, sk, so, hg, hs, hf, hW, hR => by
    obtain ⟨f, rfl⟩ : ∃ g, f = g + 1 := ⟨f - 1, by omega⟩
    have := hW.le hk
    refine ⟨nI s, sc, sk, so, ?_, hR⟩
    rw [f_M_number_L47_s, ifT (by rw [hR.1]; exact nI_le (by omega) (by omega))]
  | g + 1, s, f, q, sc, sk, so, hg, hs, hf, hW, hR => by
    obtain ⟨f, rfl⟩ : ∃ g, f = g + 1 := ⟨f - 1, by omega⟩
    have hqM := hW.le hk
    by_cases z : q.1 ≤ s
    · have e : outq kn ld C (g + 1) s q = q := by rw [outq, if_pos z]
      rw [e]
      refine ⟨nI s, sc, sk, so, ?_, hR⟩
      rw [f_M_number_L47_s, ifT (by rw [hR.1]; exact nI_le (by omega) (by omega))]
    · have e : outq kn ld C (g + 1) s q = outq kn ld C g (s + 1) (visN kn (ld (q.2.2 s)) q C) := by rw [outq, if_neg z]
      rw [e]
      have hx := (hW.1 s (by omega)).1
      have hW' := hW.visN (xs := ld (q.2.2 s)) C (fun c h => hld _ c hx h)
      obtain ⟨sc1, sk1, so1, e1, hR1⟩ := numM_in hM hC hk hld hl hK hco hcl hW (s := s) (by omega) (fun l2_57 v_states_57 v_stateOf_57 v_setOf_57 => (f_M_number_L47 v_classOf K v_leads fu kk f (nI s + 1) v_states_57 v_stateOf_57 v_setOf_57)) 256 0 fu sc sk so (by omega) (by omega) hR
      obtain ⟨x, sc', sk', so', e2, hR'⟩ := numM_out hM hC hk hld hl hK hco hcl hfu kk g (s + 1) f _ sc1 sk1 so1 (by omega) (by omega) (by omega) hW' hR1
      refine ⟨x, sc', sk', so', ?_, hR'⟩
      rw [f_M_number_L47_s, ifF (by rw [hR.1]; exact nI_ge (by omega) (by omega))]
      refine Eq.trans e1 ?_
      show f_M_number_L47 v_classOf K v_leads fu kk f (nI s + 1) sc1 sk1 so1 = _
      rw [nI_1]
      exact e2
theorem numM_fill (kk : Int32 → (Nat → Int32) → Option (Int32 × (Nat → Int32) × (Nat → Int32))) : ∀ (d i f : Nat) (a : Nat → Int32), i + d = 122 → d < f → (∀ j, j < i → a j = -1) → ∃ a' : Nat → Int32, f_M_number_L2 kk f (nI i) a = kk (nI 122) a' ∧ ∀ j, j < 122 → a' j = -1
  | 0, i, f, a, hi, hf, h => by
    obtain ⟨f, rfl⟩ : ∃ g, f = g + 1 := ⟨f - 1, by omega⟩
    have : i = 122 := by omega
    subst this
    exact ⟨a, by rw [f_M_number_L2_s, ifT (by decide)], h⟩
  | d + 1, i, f, a, hi, hf, h => by
    obtain ⟨f, rfl⟩ : ∃ g, f = g + 1 := ⟨f - 1, by omega⟩
    obtain ⟨a', r1, r2⟩ := numM_fill kk d (i + 1) f (upd a i (-1)) (by omega) (by omega) (fun j hj => by
      by_cases z : j = i
      · subst z; rw [pk_us]
      · rw [pk_un z]; exact h j (by omega))
    have q : ¬ (122 : Int32) ≤ nI i := nI_ge (b := 122) (by omega) (by decide)
    refine ⟨a', ?_, r2⟩
    rw [f_M_number_L2_s, ifF q, ifT (inB_nI (by omega) (by omega)), nI_clamp (by omega), nI_1]
    exact r1
theorem numM_ok (hM : M ≤ 120) (hM1 : 1 ≤ M) (hC : C ≤ 95) (hk : ∀ i, i < M → kn i < M) (hld : ∀ i c, i < M → c < C → ld i c < M) (hl : ∀ i c, i < M → c < C → v_leads (96 * i + c) = nI (ld i c)) (hK : ∀ i, i < M → K i = nI (kn i)) (hco : ColsOK co C) (hcl : ∀ b, b < 256 → v_classOf b = nI (co b)) (hfu : 300 ≤ fu) (sk so : Nat → Int32) :
    ∃ (sc' : Int32) (sk' so' : Nat → Int32), f_M_number fu v_classOf K v_leads sk so = some (sc', sk', so') ∧ RpM (outq kn ld C M 0 (vis kn 0 q0)) sc' sk' so' := by
  have hk0 := hk 0 (by omega)
  have hW1 := (WQ0 M kn).vis (x := 0) (by omega)
  have hv : vis kn 0 q0 = (0 + 1, va_up (fun _ => none) (kn 0) (some 0), va_up (fun _ => 0) 0 0) := vis_none rfl
  obtain ⟨a', r1, r2⟩ := numM_fill (fun l1_2 v_stateOf_2 => (if inB (0 : Int32) 122 = true then (if inB (K (0 : Int32).toNatClampNeg) 122 = true then (if inB (0 : Int32) 122 = true then (f_M_number_L47 v_classOf K v_leads fu (fun l1_47 v_states_47 v_stateOf_47 v_setOf_47 => some (v_states_47, v_stateOf_47, v_setOf_47)) fu (0 : Int32) (1 : Int32) (upd v_stateOf_2 (K (0 : Int32).toNatClampNeg).toNatClampNeg (0 : Int32)) (upd so (0 : Int32).toNatClampNeg (0 : Int32))) else none) else none) else none)) 122 0 fu sk (by omega) (by omega) (fun j hj => by omega)
  have hR1 : RpM (vis kn 0 q0) (nI 1) (upd a' (kn 0) (nI 0)) (upd so 0 (nI 0)) := by
    rw [hv]
    refine ⟨rfl, fun k hk' => ?_, fun s hs => ?_⟩
    · show upd a' (kn 0) (nI 0) k = skv (va_up (fun _ => none) (kn 0) (some 0) k)
      by_cases z : k = kn 0
      · subst z; rw [pk_us, up_s]; rfl
      · rw [pk_un z, up_n z]; exact r2 k hk'
    · have hs' : s < 0 + 1 := hs
      have : s = 0 := by omega
      subst this
      show upd so 0 (nI 0) 0 = nI (va_up (fun _ => 0) 0 0 0)
      rw [pk_us, up_s]
  obtain ⟨x, sc', sk', so', e2, hR'⟩ := numM_out hM hC hk hld hl hK hco hcl hfu (fun l1_47 v_states_47 v_stateOf_47 v_setOf_47 => some (v_states_47, v_stateOf_47, v_setOf_47)) M 0 fu _ (nI 1) (upd a' (kn 0) (nI 0)) (upd so 0 (nI 0)) (by omega) (by omega) (by omega) hW1 hR1
  refine ⟨sc', sk', so', ?_, hR'⟩
  unfold f_M_number
  refine Eq.trans r1 ?_
  show (if inB (nI 0) 122 = true then (if inB (K 0) 122 = true then (if inB (nI 0) 122 = true then (f_M_number_L47 v_classOf K v_leads fu (fun l1_47 v_states_47 v_stateOf_47 v_setOf_47 => some (v_states_47, v_stateOf_47, v_setOf_47)) fu (nI 0) (nI 1) (upd a' (K 0).toNatClampNeg (nI 0)) (upd so 0 (nI 0))) else none) else none) else none) = _
  rw [ifT (inB_nI (by omega) (by omega)), hK 0 (by omega), ifT (inB_nI (by omega) (by omega)), ifT (inB_nI (by omega) (by omega)), nI_clamp (by omega)]
  exact e2
end NM
end NU
