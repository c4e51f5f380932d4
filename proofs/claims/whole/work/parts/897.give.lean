/-! the class's giveNumber is vis -/
theorem inj_le : ∀ (m n : Nat) (f : Nat → Nat), (∀ i, i < n → f i < m) → (∀ i j, i < n → j < n → f i = f j → i = j) → n ≤ m
  | 0, n, f, h1, _ => by
    cases n with
    | zero => exact Nat.le_refl _
    | succ n => have := h1 0 (by omega); omega
  | m + 1, 0, f, _, _ => by omega
  | m + 1, n + 1, f, h1, h2 => by
    have hv := h1 n (by omega)
    have := inj_le m n (fun i => if f i = m then f n else f i) (fun i hi => by
      show (if f i = m then f n else f i) < m
      by_cases z : f i = m
      · rw [if_pos z]
        have : f n ≠ m := fun e => by have := h2 i n (by omega) (by omega) (z.trans e.symm); omega
        omega
      · rw [if_neg z]
        have := h1 i (by omega)
        omega) (fun i j hi hj e => by
      have e' : (if f i = m then f n else f i) = (if f j = m then f n else f j) := e
      by_cases z1 : f i = m
      · by_cases z2 : f j = m
        · exact h2 i j (by omega) (by omega) (z1.trans z2.symm)
        · rw [if_pos z1, if_neg z2] at e'
          have := h2 n j (by omega) (by omega) e'
          omega
      · by_cases z2 : f j = m
        · rw [if_neg z1, if_pos z2] at e'
          have := h2 i n (by omega) (by omega) e'
          omega
        · rw [if_neg z1, if_neg z2] at e'
          exact h2 i j (by omega) (by omega) e')
    omega
def skv : Option Nat → Int32
  | none => -1
  | some v => nI v
/-- the numbering so far is sound -/
def WQ (M : Nat) (kn : Nat → Nat) (q : VQ) : Prop := (∀ s, s < q.1 → q.2.2 s < M ∧ q.2.1 (kn (q.2.2 s)) = some s) ∧ ∀ k v, q.2.1 k = some v → v < q.1
def RpC (pm : Nat → Int32) (q : VQ) (sc : Int32) (sk so pe : Nat → Int32) : Prop := sc = nI q.1 ∧ (∀ k, k < 120 → sk k = skv (q.2.1 k)) ∧ ∀ s, s < q.1 → so s = nI (q.2.2 s) ∧ pe s = pm (q.2.2 s)
theorem WQ.lt {M : Nat} {kn : Nat → Nat} (hk : ∀ i, i < M → kn i < M) {q : VQ} (h : WQ M kn q) {x : Nat} (hx : x < M) (hn : q.2.1 (kn x) = none) : q.1 + 1 ≤ M := by
  refine inj_le M (q.1 + 1) (fun s => if s < q.1 then kn (q.2.2 s) else kn x) (fun i hi => ?_) (fun i j hi hj e => ?_)
  · show (if i < q.1 then kn (q.2.2 i) else kn x) < M
    by_cases z : i < q.1
    · rw [if_pos z]; exact hk _ (h.1 i z).1
    · rw [if_neg z]; exact hk x hx
  · have e' : (if i < q.1 then kn (q.2.2 i) else kn x) = (if j < q.1 then kn (q.2.2 j) else kn x) := e
    by_cases z1 : i < q.1
    · by_cases z2 : j < q.1
      · rw [if_pos z1, if_pos z2] at e'
        have a := (h.1 i z1).2
        rw [e', (h.1 j z2).2] at a
        exact (Option.some.inj a).symm
      · rw [if_pos z1, if_neg z2] at e'
        have a := (h.1 i z1).2
        rw [e', hn] at a
        cases a
    · by_cases z2 : j < q.1
      · rw [if_neg z1, if_pos z2] at e'
        have a := (h.1 j z2).2
        rw [← e', hn] at a
        cases a
      · omega
theorem WQ.vis {M : Nat} {kn : Nat → Nat} {q : VQ} (h : WQ M kn q) {x : Nat} (hx : x < M) : WQ M kn (vis kn x q) := by
  cases hq : q.2.1 (kn x) with
  | some v => rw [vis_some hq]; exact h
  | none =>
    rw [vis_none hq]
    refine ⟨fun s hs => ?_, fun k v hv => ?_⟩
    · show va_up q.2.2 q.1 x s < M ∧ va_up q.2.1 (kn x) (some q.1) (kn (va_up q.2.2 q.1 x s)) = some s
      have hs' : s < q.1 + 1 := hs
      by_cases z : s = q.1
      · subst z; rw [up_s, up_s]; exact ⟨hx, rfl⟩
      · obtain ⟨a, b⟩ := h.1 s (by omega)
        rw [up_n z]
        refine ⟨a, ?_⟩
        rw [up_n (fun e => by rw [e, hq] at b; cases b)]
        exact b
    · show v < q.1 + 1
      have hv' : va_up q.2.1 (kn x) (some q.1) k = some v := hv
      by_cases z : k = kn x
      · rw [z, up_s] at hv'
        cases hv'
        omega
      · rw [up_n z] at hv'
        have := h.2 k v hv'
        omega
theorem give_ok {M fu : Nat} (hM : M ≤ 120) {kn : Nat → Nat} (hk : ∀ i, i < M → kn i < M) {K : Nat → Int32} (hK : ∀ i, i < M → K i = nI (kn i)) {pm : Nat → Int32} {ss_found : Nat → Int64} {zz_ruleCount : Int32} {zz_endsOf : Nat → Int64} {zz_allowedBy zz_deniedBy : Nat → Int32} (hpm : ∀ i, i < M → f_Graph_permissionsOf fu (nI i) (nI M) ss_found zz_ruleCount zz_endsOf zz_allowedBy zz_deniedBy = some (pm i)) {q : VQ} (hW : WQ M kn q) {sc : Int32} {sk so pe : Nat → Int32} (hR : RpC pm q sc sk so pe) {x : Nat} (hx : x < M) :
    ∃ (sc' : Int32) (sk' so' pe' : Nat → Int32), f_Table_giveNumber fu (nI x) sc K sk so pe (nI M) ss_found zz_ruleCount zz_endsOf zz_allowedBy zz_deniedBy = some (sc', sk', so', pe') ∧ RpC pm (vis kn x q) sc' sk' so' pe' := by
  obtain ⟨rfl, hsk, hso⟩ := hR
  have hkx := hk x hx
  have q1 : ¬ (120 : Int32) ≤ nI (kn x) := nI_ge (b := 120) (by omega) (by decide)
  cases hq : q.2.1 (kn x) with
  | some v =>
    have hv := hW.2 _ v hq
    refine ⟨nI q.1, sk, so, pe, ?_, by rw [vis_some hq]; exact ⟨rfl, hsk, hso⟩⟩
    unfold f_Table_giveNumber
    rw [kos_in hM hx, hK x hx]
    show (if nI (kn x) < 0 then some (nI q.1, sk, so, pe) else if (120 : Int32) ≤ nI (kn x) then some (nI q.1, sk, so, pe) else if (120 : Int32) ≤ nI q.1 then some (nI q.1, sk, so, pe) else _) = _
    rw [ifF (nI_pos (by omega)), ifF q1]
    by_cases q2 : (120 : Int32) ≤ nI q.1
    · rw [ifT q2]
    · have hne : ¬ sk (kn x) = (-1 : Int32) := by
        rw [hsk _ (by omega), hq]
        show ¬ nI v = -1
        have hv120 : v < 120 := by
          have : ¬ 120 ≤ q.1 := fun z => q2 (by
            by_cases z2 : q.1 < 2 ^ 31
            · exact nI_le z z2
            · exfalso
              have := inj_le M q.1 (fun s => kn (q.2.2 s)) (fun i hi => hk _ (hW.1 i hi).1) (fun i j hi hj e => by
                have a := (hW.1 i hi).2
                have e' : kn (q.2.2 i) = kn (q.2.2 j) := e
                rw [e', (hW.1 j hj).2] at a
                exact (Option.some.inj a).symm)
              omega)
          omega
        intro z
        have h0 := nI_pos (n := v) (by omega)
        rw [z] at h0
        exact h0 (by decide)
      rw [ifF q2, ifT (inB_nI (by omega) (by omega)), nI_clamp (by omega), ifF hne]
  | none =>
    have hlt := hW.lt hk hx hq
    have q2 : ¬ (120 : Int32) ≤ nI q.1 := nI_ge (b := 120) (by omega) (by decide)
    have he : sk (kn x) = (-1 : Int32) := by rw [hsk _ (by omega), hq]; rfl
    refine ⟨nI (q.1 + 1), upd sk (kn x) (nI q.1), upd so q.1 (nI x), upd pe q.1 (pm x), ?_, ?_⟩
    · unfold f_Table_giveNumber
      rw [kos_in hM hx, hK x hx]
      show (if nI (kn x) < 0 then some (nI q.1, sk, so, pe) else if (120 : Int32) ≤ nI (kn x) then some (nI q.1, sk, so, pe) else if (120 : Int32) ≤ nI q.1 then some (nI q.1, sk, so, pe) else _) = _
      rw [ifF (nI_pos (by omega)), ifF q1, ifF q2, ifT (inB_nI (by omega) (by omega)), nI_clamp (n := kn x) (by omega), ifT he, ifT (inB_nI (by omega) (by omega)), ifT (inB_nI (by omega) (by omega)), hpm x hx]
      show (if inB (nI q.1) 120 = true then some ((nI q.1 + (1 : Int32)), (upd sk (kn x) (nI q.1)), (upd so (nI q.1).toNatClampNeg (nI x)), (upd pe (nI q.1).toNatClampNeg (pm x))) else none) = _
      rw [ifT (inB_nI (by omega) (by omega)), nI_clamp (by omega), nI_1]
    · rw [vis_none hq]
      refine ⟨rfl, fun k hk' => ?_, fun s hs => ?_⟩
      · show upd sk (kn x) (nI q.1) k = skv (va_up q.2.1 (kn x) (some q.1) k)
        by_cases z : k = kn x
        · subst z; rw [pk_us, up_s]; rfl
        · rw [pk_un z, up_n z]; exact hsk k hk'
      · show upd so q.1 (nI x) s = nI (va_up q.2.2 q.1 x s) ∧ upd pe q.1 (pm x) s = pm (va_up q.2.2 q.1 x s)
        have hs' : s < q.1 + 1 := hs
        by_cases z : s = q.1
        · subst z; rw [pk_us, pk_us, up_s]; exact ⟨rfl, rfl⟩
        · rw [pk_un z, pk_un z, up_n z]; exact hso s (by omega)
