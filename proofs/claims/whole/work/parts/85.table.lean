/-! the table, once it is made: promises 8 to 16 -/
theorem ltL {a b : Nat} (L : Int32) (hL : nI b = L) (ha : a < 2 ^ 31) (hb : b < 2 ^ 31) : nI a < L ↔ a < b := by subst hL; exact nI_ltI ha hb
theorem leL {a b : Nat} (L : Int32) (hL : nI b = L) (ha : a < 2 ^ 31) (hb : b < 2 ^ 31) : nI a ≤ L ↔ a ≤ b := by subst hL; exact nI_leI ha hb
def sy (b : Nat) : Nat := if b < 33 then 0 else if b ≤ 126 then b - 32 else 0
theorem sy_lt (b : Nat) : sy b < 95 := by unfold sy; split; omega; split <;> omega
theorem sym_eq {b : Nat} (hb : b < 65536) : f_G_symbolOf (nI b) = some (nI (sy b)) := by
  unfold f_G_symbolOf sy
  by_cases h1 : b < 33
  · rw [ifT ((ltL (b := 33) 33 rfl (by omega) (by omega)).mpr h1), if_pos h1]; rfl
  · rw [ifF (fun q => h1 ((ltL (b := 33) 33 rfl (by omega) (by omega)).mp q)), if_neg h1]
    by_cases h2 : b ≤ 126
    · rw [ifT ((leL (b := 126) 126 rfl (by omega) (by omega)).mpr h2), if_pos h2]
      have e : nI b - 33 = nI (b - 33) := pk_sub (b := 33) (by omega)
      rw [e, nI_1, show b - 33 + 1 = b - 32 by omega]
    · rw [ifF (fun q => h2 ((leL (b := 126) 126 rfl (by omega) (by omega)).mp q)), if_neg h2]; rfl
/-- the numbers of a table: S states, M sets, C columns -/
abbrev TN : Type := Nat × Nat × Nat × (Nat → Nat) × (Nat → Nat → Nat) × (Nat → Nat) × (Nat → Nat) × (Nat → Nat)
section TBL
variable (S M C : Nat) (co : Nat → Nat) (ld : Nat → Nat → Nat) (kn so st : Nat → Nat)
def TC (bb_stateCount : Int32) (bb_kindOf bb_stateOfKind bb_setOfState : Nat → Int32) (ss_count : Int32) (ss_leads : Nat → Int32) (zz_columnCount : Int32) (zz_columnOf : Nat → Int32) : Prop :=
  bb_stateCount = nI S ∧ ss_count = nI M ∧ zz_columnCount = nI C ∧ (∀ b, b < 256 → zz_columnOf (sy b) = nI (co b)) ∧ (∀ i c, i < M → c < C → ss_leads (i * 95 + c) = nI (ld i c)) ∧ (∀ i, i < M → bb_kindOf i = nI (kn i)) ∧ (∀ s, s < S → bb_setOfState s = nI (so s)) ∧ (∀ s b, s < S → b < 256 → bb_stateOfKind (kn (ld (so s) (co b))) = nI (st (kn (ld (so s) (co b)))))
def TM (v_states v_sets : Int32) (v_classOf v_kind v_leads v_stateOf v_setOf : Nat → Int32) : Prop :=
  v_states = nI S ∧ v_sets = nI M ∧ (∀ b, b < 256 → v_classOf b = nI (co b)) ∧ (∀ i c, i < M → c < C → v_leads (96 * i + c) = nI (ld i c)) ∧ (∀ i, i < M → v_kind i = nI (kn i)) ∧ (∀ s, s < S → v_setOf s = nI (so s)) ∧ (∀ s b, s < S → b < 256 → v_stateOf (kn (ld (so s) (co b))) = nI (st (kn (ld (so s) (co b)))))
def TR : Prop := 1 ≤ S ∧ S ≤ 120 ∧ M ≤ 120 ∧ C ≤ 95 ∧ (∀ b, b < 256 → co b < C) ∧ (∀ i c, i < M → c < C → ld i c < M) ∧ (∀ i, i < M → kn i < 120) ∧ (∀ s, s < S → so s < M) ∧ (∀ s b, s < S → b < 256 → st (kn (ld (so s) (co b))) < S)
variable {S M C co ld kn so st}
variable {bb_stateCount : Int32} {bb_kindOf bb_stateOfKind bb_setOfState bb_permissionsOf : Nat → Int32} {ss_count : Int32} {ss_leads : Nat → Int32} {zz_columnCount : Int32} {zz_columnOf : Nat → Int32} {v_states v_sets : Int32} {v_classOf v_kind v_leads v_stateOf v_setOf v_given : Nat → Int32}
theorem step_in (hR : TR S M C co ld kn so st) (hT : TC S M C co ld kn so st bb_stateCount bb_kindOf bb_stateOfKind bb_setOfState ss_count ss_leads zz_columnCount zz_columnOf) {s b : Nat} (hs : s < S) (hb : b < 256) : f_Table_step (nI s) (nI b) bb_stateCount bb_kindOf bb_stateOfKind bb_setOfState ss_count ss_leads zz_columnCount zz_columnOf = some (nI (st (kn (ld (so s) (co b))))) := by
  obtain ⟨h1, h2, h3, h4, hco, hld, hkn, hso, hst⟩ := hR
  obtain ⟨rfl, rfl, rfl, tco, tld, tkn, tso, tst⟩ := hT
  have a1 := hso s hs
  have a2 := hco b hb
  have a3 := hld _ _ a1 a2
  have a4 := hkn _ a3
  unfold f_Table_step
  rw [ifF (nI_pos (by omega)), ifF (nI_ge hs (by omega)), ifF (nI_pos (by omega)), ifT ((ltL (b := 256) 256 rfl (by omega) (by omega)).mpr hb), ifT (inB_nI (by omega) (by omega)), nI_clamp (by omega), tso s hs]
  have e1 : f_Union_columnOfByte (nI b) zz_columnOf = some (nI (co b)) := by
    unfold f_Union_columnOfByte
    rw [sym_eq (by omega)]
    show (if inB (nI (sy b)) 95 = true then some (zz_columnOf (nI (sy b)).toNatClampNeg) else none) = _
    have := sy_lt b
    rw [ifT (inB_nI this (by omega)), nI_clamp (by omega), tco b hb]
  have e2 : f_Graph_lead (nI (so s)) (nI (co b)) (nI M) ss_leads (nI C) = some (nI (ld (so s) (co b))) := by
    unfold f_Graph_lead
    have e : nI (so s) * 95 + nI (co b) = nI (so s * 95 + co b) := by
      rw [show (95 : Int32) = nI 95 from rfl, pk_mul, nI_add]
    have q : ¬ (11400 : Int32) ≤ nI (so s * 95 + co b) := nI_ge (b := 11400) (by omega) (by decide)
    rw [ifF (nI_pos (by omega)), ifF (nI_ge a1 (by omega)), ifF (nI_pos (by omega)), ifT (nI_lt a2 (by omega)), e, ifF q, ifT (inB_nI (by omega) (by omega)), nI_clamp (by omega), tld _ _ a1 a2]
  have e3 : f_Table_kindOfSet (nI (ld (so s) (co b))) bb_kindOf (nI M) = some (nI (kn (ld (so s) (co b)))) := by
    unfold f_Table_kindOfSet
    have q : ¬ (120 : Int32) ≤ nI (ld (so s) (co b)) := nI_ge (b := 120) (by omega) (by decide)
    rw [ifF (nI_pos (by omega)), ifF (nI_ge a3 (by omega)), ifF q, ifT (inB_nI (by omega) (by omega)), nI_clamp (by omega), tkn _ a3]
  rw [e1]
  show Option.bind (f_Graph_lead (nI (so s)) (nI (co b)) (nI M) ss_leads (nI C)) _ = _
  rw [e2]
  show Option.bind (f_Table_kindOfSet (nI (ld (so s) (co b))) bb_kindOf (nI M)) _ = _
  rw [e3]
  show (if nI (kn (ld (so s) (co b))) < 0 then some (-1 : Int32) else if (120 : Int32) ≤ nI (kn (ld (so s) (co b))) then some (-1 : Int32) else if inB (nI (kn (ld (so s) (co b)))) 120 = true then some (bb_stateOfKind (nI (kn (ld (so s) (co b)))).toNatClampNeg) else none) = _
  have a5 : ¬ (120 : Int32) ≤ nI (kn (ld (so s) (co b))) := nI_ge (b := 120) a4 (by decide)
  rw [ifF (nI_pos (by omega)), ifF a5, ifT (inB_nI a4 (by omega)), nI_clamp (by omega), tst s b hs hb]
theorem step_out {p1 p2 : Int32} {S : Nat} (hS : S ≤ 120) (h : ¬ ((∃ s, s < S ∧ p1 = nI s) ∧ ∃ b, b < 256 ∧ p2 = nI b)) : f_Table_step p1 p2 (nI S) bb_kindOf bb_stateOfKind bb_setOfState ss_count ss_leads zz_columnCount zz_columnOf = some (-1) := by
  unfold f_Table_step
  rcases pk_ix p1 (n := S) (by omega) with q | q | q
  · rw [ifT q]
  · by_cases q0 : p1 < 0
    · rw [ifT q0]
    · rw [ifF q0, ifT q]
  · by_cases q0 : p1 < 0
    · rw [ifT q0]
    · by_cases q1 : nI S ≤ p1
      · rw [ifF q0, ifT q1]
      · rw [ifF q0, ifF q1]
        rcases pk_ix p2 (n := 256) (by omega) with w | w | w
        · rw [ifT w]
        · by_cases w0 : p2 < 0
          · rw [ifT w0]
          · have w' : ¬ p2 < (256 : Int32) := Int32.not_lt.mpr w
            rw [ifF w0, ifF w']
        · exact absurd ⟨q, w⟩ h
theorem lead_in (hR : TR S M C co ld kn so st) (hT : TM S M C co ld kn so st v_states v_sets v_classOf v_kind v_leads v_stateOf v_setOf) {s b : Nat} (hs : s < S) (hb : b < 256) : f_M_lead (nI s) (nI b) v_classOf v_kind v_leads v_stateOf v_setOf = some (nI (st (kn (ld (so s) (co b))))) := by
  obtain ⟨h1, h2, h3, h4, hco, hld, hkn, hso, hst⟩ := hR
  obtain ⟨rfl, rfl, tco, tld, tkn, tso, tst⟩ := hT
  have a1 := hso s hs
  have a2 := hco b hb
  have a3 := hld _ _ a1 a2
  have a4 := hkn _ a3
  unfold f_M_lead
  have e : (96 : Int32) * nI (so s) + nI (co b) = nI (96 * so s + co b) := by
    rw [show (96 : Int32) = nI 96 from rfl, pk_mul, nI_add]
  rw [ifT (inB_nI (by omega) (by omega)), ifT (inB_nI hb (by omega)), nI_clamp (n := s) (by omega), nI_clamp (n := b) (by omega), tso s hs, tco b hb, e, ifT (inB_nI (by omega) (by omega)), nI_clamp (n := 96 * so s + co b) (by omega), tld _ _ a1 a2, ifT (inB_nI (by omega) (by omega)), nI_clamp (n := ld (so s) (co b)) (by omega), tkn _ a3, ifT (inB_nI (by omega) (by omega)), nI_clamp (n := kn (ld (so s) (co b))) (by omega), tst s b hs hb]
theorem sm1 {S : Nat} (h1 : 1 ≤ S) (p : Int32) (hS : S ≤ 1000) : (¬ p < 0 ∧ ¬ nI S - 1 < p) ↔ ∃ s, s < S ∧ p = nI s := by
  have e : nI S - 1 = nI (S - 1) := pk_sub (b := 1) h1
  rw [e]
  constructor
  · rintro ⟨q1, q2⟩
    obtain ⟨j, hj, rfl⟩ := nI_of q1
    refine ⟨j, ?_, rfl⟩
    have : ¬ S - 1 < j := fun z => q2 ((nI_ltI (by omega) hj).mpr z)
    omega
  · rintro ⟨s, hs, rfl⟩
    exact ⟨nI_pos (by omega), nI_nlt (by omega) (by omega)⟩
theorem giv_in (hR : TR S M C co ld kn so st) (hT : TM S M C co ld kn so st v_states v_sets v_classOf v_kind v_leads v_stateOf v_setOf) {s : Nat} (hs : s < S) : f_M_gives (nI s) v_states v_given v_setOf = some (v_given (so s)) := by
  obtain ⟨h1, h2, h3, h4, hco, hld, hkn, hso, hst⟩ := hR
  obtain ⟨rfl, rfl, tco, tld, tkn, tso, tst⟩ := hT
  have a1 := hso s hs
  unfold f_M_gives
  obtain ⟨q1, q2⟩ := (sm1 h1 (nI s) (by omega)).mpr ⟨s, hs, rfl⟩
  rw [in_eq, ifF q1, ifF q2]
  show (if (1 : Int32) = 0 then some (-1 : Int32) else if inB (nI s) 122 = true then (if inB (v_setOf (nI s).toNatClampNeg) 122 = true then some (v_given (v_setOf (nI s).toNatClampNeg).toNatClampNeg) else none) else none) = _
  rw [ifF (by decide), ifT (inB_nI (by omega) (by omega)), nI_clamp (by omega), tso s hs, ifT (inB_nI (by omega) (by omega)), nI_clamp (by omega)]
theorem per_in {S : Nat} (hS : S ≤ 120) {s : Nat} (hs : s < S) : f_Table_permissionsAt (nI s) (nI S) bb_permissionsOf = some (bb_permissionsOf s) := by
  unfold f_Table_permissionsAt
  rw [ifF (nI_pos (by omega)), ifF (nI_ge hs (by omega)), ifT (inB_nI (by omega) (by omega)), nI_clamp (by omega)]
theorem per_out {S : Nat} (hS : S ≤ 120) {p : Int32} (h : ¬ ∃ s, s < S ∧ p = nI s) : f_Table_permissionsAt p (nI S) bb_permissionsOf = some (-1) := by
  unfold f_Table_permissionsAt
  rcases pk_ix p (n := S) (by omega) with q | q | q
  · rw [ifT q]
  · by_cases q0 : p < 0
    · rw [ifT q0]
    · rw [ifF q0, ifT q]
  · exact absurd q h
theorem giv_out {S : Nat} (hS : S ≤ 120) {p : Int32} (h : ¬ ∃ s, s < S ∧ p = nI s) : f_M_gives p (nI S) v_given v_setOf = some (-1) := by
  unfold f_M_gives
  rw [in_eq]
  by_cases q1 : p < 0
  · rw [ifT q1]; rfl
  · by_cases h1 : 1 ≤ S
    · have : nI S - 1 < p := Classical.byContradiction fun q2 => h ((sm1 h1 p (by omega)).mp ⟨q1, q2⟩)
      rw [ifF q1, ifT this]; rfl
    · have e : S = 0 := by omega
      subst e
      have : nI 0 - 1 < p := by
        rw [Int32.lt_iff_toInt_lt]
        have q1' : ¬ p.toInt < (0 : Int32).toInt := fun z => q1 (Int32.lt_iff_toInt_lt.mpr z)
        have e0 : (0 : Int32).toInt = 0 := by decide
        have e1 : (nI 0 - 1).toInt = -1 := by decide
        omega
      rw [ifF q1, ifT this]; rfl
end TBL
