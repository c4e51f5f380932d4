/-! promises 8 to 16 in lockstep, over a table that is the same on both sides -/
section OPS
variable {bb_stateCount : Int32} {bb_kindOf bb_stateOfKind bb_setOfState bb_permissionsOf : Nat → Int32} {ss_count : Int32} {ss_leads : Nat → Int32} {zz_columnCount : Int32} {zz_columnOf : Nat → Int32} {qq_walkState : Int32} {v_states v_sets v_walker : Int32} {v_classOf v_kind v_leads v_stateOf v_setOf v_given : Nat → Int32} {tt_length : Int32} {tt_ch : Nat → Int32} {v_size : Int32} {v_typed : Nat → Int32}
/-- the tables: none on both sides, or the same -/
def InvB (bb_stateCount : Int32) (bb_kindOf bb_stateOfKind bb_setOfState bb_permissionsOf : Nat → Int32) (ss_count : Int32) (ss_leads : Nat → Int32) (zz_columnCount : Int32) (zz_columnOf : Nat → Int32) (qq_walkState v_states v_sets v_walker : Int32) (v_classOf v_kind v_leads v_stateOf v_setOf v_given : Nat → Int32) : Prop :=
  (bb_stateCount = 0 ∧ v_states = 0) ∨ ∃ (S M C : Nat) (co : Nat → Nat) (ld : Nat → Nat → Nat) (kn so st : Nat → Nat) (w : Nat), TR S M C co ld kn so st ∧ TC S M C co ld kn so st bb_stateCount bb_kindOf bb_stateOfKind bb_setOfState ss_count ss_leads zz_columnCount zz_columnOf ∧ TM S M C co ld kn so st v_states v_sets v_classOf v_kind v_leads v_stateOf v_setOf ∧ (∀ s, s < S → bb_permissionsOf s = v_given (so s)) ∧ w < S ∧ qq_walkState = nI w ∧ v_walker = nI w
theorem in_S {S : Nat} (hS : S ≤ 1000) (p : Int32) : ((∃ s, s < S ∧ p = nI s) → f_M_in p 0 (nI S - 1) = some 1) ∧ ((¬ ∃ s, s < S ∧ p = nI s) → f_M_in p 0 (nI S - 1) = some 0) := by
  rw [in_eq]
  constructor
  · rintro ⟨s, hs, rfl⟩
    obtain ⟨q1, q2⟩ := (sm1 (S := S) (by omega) (nI s) hS).mpr ⟨s, hs, rfl⟩
    rw [ifF q1, ifF q2]
  · intro h
    by_cases q1 : p < 0
    · rw [ifT q1]
    · by_cases h1 : 1 ≤ S
      · have : nI S - 1 < p := Classical.byContradiction fun q2 => h ((sm1 h1 p hS).mp ⟨q1, q2⟩)
        rw [ifF q1, ifT this]
      · have e : S = 0 := by omega
        subst e
        have : nI 0 - 1 < p := by
          rw [Int32.lt_iff_toInt_lt]
          have q1' : ¬ p.toInt < (0 : Int32).toInt := fun z => q1 (Int32.lt_iff_toInt_lt.mpr z)
          have e0 : (0 : Int32).toInt = 0 := by decide
          have e1 : (nI 0 - 1).toInt = -1 := by decide
          omega
        rw [ifF q1, ifT this]
theorem made_0 : f_Table_isMade 0 = some 0 := by decide
theorem made_S {S : Nat} (h1 : 1 ≤ S) (hS : S ≤ 120) : f_Table_isMade (nI S) = some 1 := by
  unfold f_Table_isMade
  rw [ifF (nI_nle (by omega) (by omega))]; rfl
theorem states_ok (h : InvB bb_stateCount bb_kindOf bb_stateOfKind bb_setOfState bb_permissionsOf ss_count ss_leads zz_columnCount zz_columnOf qq_walkState v_states v_sets v_walker v_classOf v_kind v_leads v_stateOf v_setOf v_given) : ∃ r, f_G_states bb_stateCount = some r ∧ f_M_states v_states = some r := by
  rcases h with ⟨rfl, rfl⟩ | ⟨S, M, C, co, ld, kn, so, st, w, hR, hT, hM, -⟩
  · exact ⟨0, rfl, rfl⟩
  · exact ⟨nI S, by rw [hT.1]; rfl, by rw [hM.1]; rfl⟩
theorem sets_ok (h : InvB bb_stateCount bb_kindOf bb_stateOfKind bb_setOfState bb_permissionsOf ss_count ss_leads zz_columnCount zz_columnOf qq_walkState v_states v_sets v_walker v_classOf v_kind v_leads v_stateOf v_setOf v_given) : ∃ r, f_G_sets bb_stateCount ss_count = some r ∧ f_M_sets v_sets v_states = some r := by
  rcases h with ⟨rfl, rfl⟩ | ⟨S, M, C, co, ld, kn, so, st, w, hR, hT, hM, -⟩
  · exact ⟨0, by unfold f_G_sets; rw [made_0]; rfl, rfl⟩
  · refine ⟨nI M, ?_, ?_⟩
    · unfold f_G_sets; rw [hT.1, made_S hR.1 hR.2.1, hT.2.1]; rfl
    · unfold f_M_sets; rw [hM.1, ifF (nI_nle (by have := hR.1; omega) (by have := hR.2.1; omega)), hM.2.1]
theorem place_ok (h : InvB bb_stateCount bb_kindOf bb_stateOfKind bb_setOfState bb_permissionsOf ss_count ss_leads zz_columnCount zz_columnOf qq_walkState v_states v_sets v_walker v_classOf v_kind v_leads v_stateOf v_setOf v_given) : ∃ r, f_G_place qq_walkState bb_stateCount = some r ∧ f_M_place v_states v_walker = some r := by
  rcases h with ⟨rfl, rfl⟩ | ⟨S, M, C, co, ld, kn, so, st, w, hR, hT, hM, -, -, rfl, rfl⟩
  · exact ⟨-1, by unfold f_G_place; rw [made_0]; rfl, rfl⟩
  · refine ⟨nI w, ?_, ?_⟩
    · unfold f_G_place; rw [hT.1, made_S hR.1 hR.2.1]; rfl
    · unfold f_M_place; rw [hM.1, ifF (nI_nle (by have := hR.1; omega) (by have := hR.2.1; omega))]
theorem restart_ok (h : InvB bb_stateCount bb_kindOf bb_stateOfKind bb_setOfState bb_permissionsOf ss_count ss_leads zz_columnCount zz_columnOf qq_walkState v_states v_sets v_walker v_classOf v_kind v_leads v_stateOf v_setOf v_given) : ∃ r w1 w2, f_G_restart qq_walkState bb_stateCount = some (r, w1) ∧ f_M_restart v_states = some (r, w2) ∧ InvB bb_stateCount bb_kindOf bb_stateOfKind bb_setOfState bb_permissionsOf ss_count ss_leads zz_columnCount zz_columnOf w1 v_states v_sets w2 v_classOf v_kind v_leads v_stateOf v_setOf v_given := by
  rcases h with ⟨rfl, rfl⟩ | ⟨S, M, C, co, ld, kn, so, st, w, hR, hT, hM, hG, -⟩
  · exact ⟨0, qq_walkState, 0, by unfold f_G_restart; rw [made_0]; rfl, rfl, Or.inl ⟨rfl, rfl⟩⟩
  · refine ⟨1, 0, 0, ?_, ?_, Or.inr ⟨S, M, C, co, ld, kn, so, st, 0, hR, hT, hM, hG, hR.1, rfl, rfl⟩⟩
    · unfold f_G_restart; rw [hT.1, made_S hR.1 hR.2.1]; rfl
    · unfold f_M_restart; rw [hM.1, ifF (nI_nle (by have := hR.1; omega) (by have := hR.2.1; omega))]; rfl
theorem gives_ok (h : InvB bb_stateCount bb_kindOf bb_stateOfKind bb_setOfState bb_permissionsOf ss_count ss_leads zz_columnCount zz_columnOf qq_walkState v_states v_sets v_walker v_classOf v_kind v_leads v_stateOf v_setOf v_given) (p : Int32) : ∃ r, f_G_gives p bb_stateCount bb_permissionsOf = some r ∧ f_M_gives p v_states v_given v_setOf = some r := by
  rcases h with ⟨rfl, rfl⟩ | ⟨S, M, C, co, ld, kn, so, st, w, hR, hT, hM, hG, -⟩
  · have hn : ¬ ∃ s, s < 0 ∧ p = nI s := fun ⟨s, hs, _⟩ => by omega
    exact ⟨-1, by unfold f_G_gives; rw [show (0 : Int32) = nI 0 from rfl, per_out (by omega) hn]; rfl, giv_out (S := 0) (by omega) hn⟩
  · by_cases hp : ∃ s, s < S ∧ p = nI s
    · obtain ⟨s, hs, rfl⟩ := hp
      exact ⟨v_given (so s), by unfold f_G_gives; rw [hT.1, per_in hR.2.1 hs, hG s hs]; rfl, giv_in hR hM hs⟩
    · exact ⟨-1, by unfold f_G_gives; rw [hT.1, per_out hR.2.1 hp]; rfl, by rw [hM.1]; exact giv_out hR.2.1 hp⟩
theorem next_ok (h : InvB bb_stateCount bb_kindOf bb_stateOfKind bb_setOfState bb_permissionsOf ss_count ss_leads zz_columnCount zz_columnOf qq_walkState v_states v_sets v_walker v_classOf v_kind v_leads v_stateOf v_setOf v_given) (p1 p2 : Int32) : ∃ r, f_G_next p1 p2 bb_stateCount bb_kindOf bb_stateOfKind bb_setOfState ss_count ss_leads zz_columnCount zz_columnOf = some r ∧ f_M_next p1 p2 v_states v_classOf v_kind v_leads v_stateOf v_setOf = some r := by
  have out : ∀ S : Nat, S ≤ 120 → ¬ ((∃ s, s < S ∧ p1 = nI s) ∧ ∃ b, b < 256 ∧ p2 = nI b) → ∃ r, f_G_next p1 p2 (nI S) bb_kindOf bb_stateOfKind bb_setOfState ss_count ss_leads zz_columnCount zz_columnOf = some r ∧ f_M_next p1 p2 (nI S) v_classOf v_kind v_leads v_stateOf v_setOf = some r := by
    intro S hS hn
    refine ⟨-1, by unfold f_G_next; rw [step_out hS hn]; rfl, ?_⟩
    unfold f_M_next
    by_cases h1 : ∃ s, s < S ∧ p1 = nI s
    · rw [(in_S (by omega) p1).1 h1]
      show (if (1 : Int32) = 0 then some (-1 : Int32) else Option.bind (f_M_in p2 0 (nI 256 - 1)) _) = _
      rw [ifF (by decide), (in_S (S := 256) (by omega) p2).2 (fun h2 => hn ⟨h1, h2⟩)]
      rfl
    · rw [(in_S (by omega) p1).2 h1]; rfl
  rcases h with ⟨rfl, rfl⟩ | ⟨S, M, C, co, ld, kn, so, st, w, hR, hT, hM, hG, -⟩
  · exact out 0 (by omega) (fun ⟨⟨s, hs, _⟩, _⟩ => by omega)
  · by_cases hp : (∃ s, s < S ∧ p1 = nI s) ∧ ∃ b, b < 256 ∧ p2 = nI b
    · obtain ⟨⟨s, hs, rfl⟩, b, hb, rfl⟩ := hp
      refine ⟨_, by unfold f_G_next; rw [step_in hR hT hs hb]; rfl, ?_⟩
      unfold f_M_next
      rw [hM.1, (in_S (S := S) (by have := hR.2.1; omega) _).1 ⟨s, hs, rfl⟩]
      show (if (1 : Int32) = 0 then some (-1 : Int32) else Option.bind (f_M_in (nI b) 0 (nI 256 - 1)) _) = _
      rw [ifF (by decide), (in_S (S := 256) (by omega) _).1 ⟨b, hb, rfl⟩]
      show (if (1 : Int32) = 0 then some (-1 : Int32) else Option.bind (f_M_lead (nI s) (nI b) v_classOf v_kind v_leads v_stateOf v_setOf) _) = _
      rw [ifF (by decide), lead_in hR hM hs hb]
      rfl
    · have := out S hR.2.1 hp
      rw [hT.1, hM.1]
      exact this
theorem walk_ok (h : InvB bb_stateCount bb_kindOf bb_stateOfKind bb_setOfState bb_permissionsOf ss_count ss_leads zz_columnCount zz_columnOf qq_walkState v_states v_sets v_walker v_classOf v_kind v_leads v_stateOf v_setOf v_given) (p : Int32) : ∃ r w1 w2, f_G_walk p qq_walkState bb_stateCount bb_kindOf bb_stateOfKind bb_setOfState bb_permissionsOf ss_count ss_leads zz_columnCount zz_columnOf = some (r, w1) ∧ f_M_walk p v_states v_walker v_classOf v_given v_kind v_leads v_stateOf v_setOf = some (r, w2) ∧ InvB bb_stateCount bb_kindOf bb_stateOfKind bb_setOfState bb_permissionsOf ss_count ss_leads zz_columnCount zz_columnOf w1 v_states v_sets w2 v_classOf v_kind v_leads v_stateOf v_setOf v_given := by
  rcases h with ⟨rfl, rfl⟩ | ⟨S, M, C, co, ld, kn, so, st, w, hR, hT, hM, hG, hw, rfl, rfl⟩
  · refine ⟨-1, qq_walkState, v_walker, ?_, rfl, Or.inl ⟨rfl, rfl⟩⟩
    unfold f_G_walk
    rw [show (0 : Int32) = nI 0 from rfl, step_out (S := 0) (by omega) (fun ⟨⟨s, hs, _⟩, _⟩ => by omega)]
    rfl
  · have hs0 : ¬ v_states = 0 := by rw [hM.1]; exact nI_ne0 (by have := hR.1; omega) (by have := hR.2.1; omega)
    by_cases hp : ∃ b, b < 256 ∧ p = nI b
    · obtain ⟨b, hb, rfl⟩ := hp
      have hn := hR.2.2.2.2.2.2.2.2 w b hw hb
      refine ⟨v_given (so (st (kn (ld (so w) (co b))))), nI (st (kn (ld (so w) (co b)))), nI (st (kn (ld (so w) (co b)))), ?_, ?_, Or.inr ⟨S, M, C, co, ld, kn, so, st, _, hR, hT, hM, hG, hn, rfl, rfl⟩⟩
      · unfold f_G_walk
        rw [step_in hR hT hw hb]
        show (if 0 ≤ nI (st (kn (ld (so w) (co b)))) then Option.bind (f_Table_permissionsAt (nI (st (kn (ld (so w) (co b))))) bb_stateCount bb_permissionsOf) _ else _) = _
        rw [ifT (nI_pos' (by have := hR.2.1; omega)), hT.1, per_in hR.2.1 hn, hG _ hn]
        rfl
      · unfold f_M_walk
        rw [ifF hs0]
        show Option.bind (f_M_in (nI b) 0 (nI 256 - 1)) _ = _
        rw [(in_S (S := 256) (by omega) _).1 ⟨b, hb, rfl⟩]
        show (if (1 : Int32) = 0 then some ((-1 : Int32), nI w) else Option.bind (f_M_lead (nI w) (nI b) v_classOf v_kind v_leads v_stateOf v_setOf) _) = _
        rw [ifF (by decide), lead_in hR hM hw hb]
        show Option.bind (f_M_gives (nI (st (kn (ld (so w) (co b))))) v_states v_given v_setOf) _ = _
        rw [giv_in hR hM hn]
        rfl
    · refine ⟨-1, nI w, nI w, ?_, ?_, Or.inr ⟨S, M, C, co, ld, kn, so, st, w, hR, hT, hM, hG, hw, rfl, rfl⟩⟩
      · unfold f_G_walk
        rw [hT.1, step_out hR.2.1 (fun q => hp q.2)]
        rfl
      · unfold f_M_walk
        rw [ifF hs0]
        show Option.bind (f_M_in p 0 (nI 256 - 1)) _ = _
        rw [(in_S (S := 256) (by omega) _).2 hp]
        rfl
/-- what byte b gives from state w, and p -/
theorem wayC {S M C : Nat} {co : Nat → Nat} {ld : Nat → Nat → Nat} {kn so st : Nat → Nat} (hR : TR S M C co ld kn so st) (hT : TC S M C co ld kn so st bb_stateCount bb_kindOf bb_stateOfKind bb_setOfState ss_count ss_leads zz_columnCount zz_columnOf) {w : Nat} (hw : w < S) (p : Int32) (k0 k1 : Int32 → Option Int32) : ∀ (d i f : Nat), i + d = 256 → d < f →
    (∃ b, i ≤ b ∧ b < 256 ∧ ¬ (bb_permissionsOf (st (kn (ld (so w) (co b)))) &&& p) = 0 ∧ (∀ j, i ≤ j → j < b → (bb_permissionsOf (st (kn (ld (so w) (co j)))) &&& p) = 0) ∧ f_G_way_L14 (nI w) bb_stateCount bb_kindOf bb_stateOfKind bb_setOfState bb_permissionsOf ss_count ss_leads zz_columnCount zz_columnOf p k0 k1 f (nI i) = k1 (nI b)) ∨ ((∀ j, i ≤ j → j < 256 → (bb_permissionsOf (st (kn (ld (so w) (co j)))) &&& p) = 0) ∧ f_G_way_L14 (nI w) bb_stateCount bb_kindOf bb_stateOfKind bb_setOfState bb_permissionsOf ss_count ss_leads zz_columnCount zz_columnOf p k0 k1 f (nI i) = k0 (nI 256))
  | 0, i, f, hi, hf => by
    obtain ⟨f, rfl⟩ : ∃ g, f = g + 1 := ⟨f - 1, by omega⟩
    have : i = 256 := by omega
    subst this
    refine Or.inr ⟨fun j a b => by omega, ?_⟩
    rw [f_G_way_L14_s, ifT (by decide)]
  | d + 1, i, f, hi, hf => by
    obtain ⟨f, rfl⟩ : ∃ g, f = g + 1 := ⟨f - 1, by omega⟩
    have hn := hR.2.2.2.2.2.2.2.2 w i hw (by omega)
    have e : f_G_way_L14 (nI w) bb_stateCount bb_kindOf bb_stateOfKind bb_setOfState bb_permissionsOf ss_count ss_leads zz_columnCount zz_columnOf p k0 k1 (f + 1) (nI i) = if (bb_permissionsOf (st (kn (ld (so w) (co i)))) &&& p) = 0 then f_G_way_L14 (nI w) bb_stateCount bb_kindOf bb_stateOfKind bb_setOfState bb_permissionsOf ss_count ss_leads zz_columnCount zz_columnOf p k0 k1 f (nI (i + 1)) else k1 (nI i) := by
      have q : ¬ (256 : Int32) ≤ nI i := nI_ge (b := 256) (by omega) (by decide)
      rw [f_G_way_L14_s, ifF q, step_in hR hT hw (by omega)]
      show Option.bind (f_Table_permissionsAt (nI (st (kn (ld (so w) (co i))))) bb_stateCount bb_permissionsOf) _ = _
      rw [hT.1, per_in hR.2.1 hn, ← nI_1]
      rfl
    rw [e]
    by_cases hz : (bb_permissionsOf (st (kn (ld (so w) (co i)))) &&& p) = 0
    · rw [ifT hz]
      rcases wayC hR hT hw p k0 k1 d (i + 1) f (by omega) (by omega) with ⟨b, h1, h2, h3, h4, h5⟩ | ⟨h1, h2⟩
      · refine Or.inl ⟨b, by omega, h2, h3, fun j a c => ?_, h5⟩
        by_cases ej : j = i
        · subst ej; exact hz
        · exact h4 j (by omega) c
      · refine Or.inr ⟨fun j a c => ?_, h2⟩
        by_cases ej : j = i
        · subst ej; exact hz
        · exact h1 j (by omega) c
    · rw [ifF hz]
      exact Or.inl ⟨i, Nat.le_refl _, by omega, hz, fun j a c => by omega, rfl⟩
theorem wayM {S M C : Nat} {co : Nat → Nat} {ld : Nat → Nat → Nat} {kn so st : Nat → Nat} (hR : TR S M C co ld kn so st) (hM : TM S M C co ld kn so st v_states v_sets v_classOf v_kind v_leads v_stateOf v_setOf) {w : Nat} (hw : w < S) (p : Int32) (k0 : Int32 → Int32 → Option Int32) : ∀ (c f : Nat) (best : Int32), c ≤ 256 → c < f →
    (∃ b, b < c ∧ ¬ (v_given (so (st (kn (ld (so w) (co b))))) &&& p) = 0 ∧ (∀ j, j < b → (v_given (so (st (kn (ld (so w) (co j))))) &&& p) = 0) ∧ f_M_way_L6 v_states (nI w) v_classOf v_given v_kind v_leads v_stateOf v_setOf p k0 f (dn c) best = k0 (-1) (nI b)) ∨ ((∀ j, j < c → (v_given (so (st (kn (ld (so w) (co j))))) &&& p) = 0) ∧ f_M_way_L6 v_states (nI w) v_classOf v_given v_kind v_leads v_stateOf v_setOf p k0 f (dn c) best = k0 (-1) best)
  | 0, f, best, hc, hf => by
    obtain ⟨f, rfl⟩ : ∃ g, f = g + 1 := ⟨f - 1, by omega⟩
    refine Or.inr ⟨fun j h => by omega, ?_⟩
    rw [f_M_way_L6_s, ifT ((dn_lt 0 (by omega)).mpr rfl)]
    rfl
  | c + 1, f, best, hc, hf => by
    obtain ⟨f, rfl⟩ : ∃ g, f = g + 1 := ⟨f - 1, by omega⟩
    have hn := hR.2.2.2.2.2.2.2.2 w c hw (by omega)
    have e : f_M_way_L6 v_states (nI w) v_classOf v_given v_kind v_leads v_stateOf v_setOf p k0 (f + 1) (dn (c + 1)) best = if (v_given (so (st (kn (ld (so w) (co c))))) &&& p) = 0 then f_M_way_L6 v_states (nI w) v_classOf v_given v_kind v_leads v_stateOf v_setOf p k0 f (dn c) best else f_M_way_L6 v_states (nI w) v_classOf v_given v_kind v_leads v_stateOf v_setOf p k0 f (dn c) (nI c) := by
      have q : ¬ v_states ≤ 0 := by rw [hM.1]; exact nI_nle (by have := hR.1; omega) (by have := hR.2.1; omega)
      rw [f_M_way_L6_s, ifF (fun q => by have := (dn_lt (c + 1) (by omega)).mp q; omega), ifF q]
      show Option.bind (f_M_lead (nI w) (nI c) v_classOf v_kind v_leads v_stateOf v_setOf) _ = _
      rw [lead_in hR hM hw (by omega)]
      show Option.bind (f_M_gives (nI (st (kn (ld (so w) (co c))))) v_states v_given v_setOf) _ = _
      rw [giv_in hR hM hn]
      show (if (v_given (so (st (kn (ld (so w) (co c))))) &&& p) = 0 then f_M_way_L6 v_states (nI w) v_classOf v_given v_kind v_leads v_stateOf v_setOf p k0 f (nI c + (-1)) best else f_M_way_L6 v_states (nI w) v_classOf v_given v_kind v_leads v_stateOf v_setOf p k0 f (nI c + (-1)) (nI c)) = _
      rw [dn_m1]
    rw [e]
    by_cases hz : (v_given (so (st (kn (ld (so w) (co c))))) &&& p) = 0
    · rw [ifT hz]
      rcases wayM hR hM hw p k0 c f best (by omega) (by omega) with ⟨b, h1, h2⟩ | ⟨h1, h2⟩
      · exact Or.inl ⟨b, by omega, h2⟩
      · refine Or.inr ⟨fun j a => ?_, h2⟩
        by_cases ej : j = c
        · subst ej; exact hz
        · exact h1 j (by omega)
    · rw [ifF hz]
      rcases wayM hR hM hw p k0 c f (nI c) (by omega) (by omega) with ⟨b, h1, h2⟩ | ⟨h1, h2⟩
      · exact Or.inl ⟨b, by omega, h2⟩
      · exact Or.inl ⟨c, by omega, hz, h1, h2⟩
theorem way_ok {fu : Nat} (hfu : 300 ≤ fu) (h : InvB bb_stateCount bb_kindOf bb_stateOfKind bb_setOfState bb_permissionsOf ss_count ss_leads zz_columnCount zz_columnOf qq_walkState v_states v_sets v_walker v_classOf v_kind v_leads v_stateOf v_setOf v_given) (p : Int32) : ∃ r, f_G_way fu p qq_walkState bb_stateCount bb_kindOf bb_stateOfKind bb_setOfState bb_permissionsOf ss_count ss_leads zz_columnCount zz_columnOf = some r ∧ f_M_way fu p v_states v_walker v_classOf v_given v_kind v_leads v_stateOf v_setOf = some r := by
  rcases h with ⟨rfl, rfl⟩ | ⟨S, M, C, co, ld, kn, so, st, w, hR, hT, hM, hG, hw, rfl, rfl⟩
  · obtain ⟨f, rfl⟩ : ∃ g, fu = g + 1 := ⟨fu - 1, by omega⟩
    refine ⟨-1, by unfold f_G_way; rw [made_0]; rfl, ?_⟩
    unfold f_M_way
    rw [f_M_way_L6_s, ifF (by decide), ifT (by decide)]
  · have eC : f_G_way fu p (nI w) bb_stateCount bb_kindOf bb_stateOfKind bb_setOfState bb_permissionsOf ss_count ss_leads zz_columnCount zz_columnOf = f_G_way_L14 (nI w) bb_stateCount bb_kindOf bb_stateOfKind bb_setOfState bb_permissionsOf ss_count ss_leads zz_columnCount zz_columnOf p (fun _ => some (-1 : Int32)) (fun l => some l) fu (nI 0) := by
      unfold f_G_way
      have q : f_Table_isMade bb_stateCount = some 1 := by rw [hT.1]; exact made_S hR.1 hR.2.1
      rw [q]
      rfl
    have eM : f_M_way fu p v_states (nI w) v_classOf v_given v_kind v_leads v_stateOf v_setOf = f_M_way_L6 v_states (nI w) v_classOf v_given v_kind v_leads v_stateOf v_setOf p (fun _ l => some l) fu (dn 256) (-1) := rfl
    have hg : ∀ j, j < 256 → bb_permissionsOf (st (kn (ld (so w) (co j)))) = v_given (so (st (kn (ld (so w) (co j))))) := fun j hj => hG _ (hR.2.2.2.2.2.2.2.2 w j hw hj)
    rw [eC, eM]
    rcases wayC (bb_permissionsOf := bb_permissionsOf) hR hT hw p (fun _ => some (-1 : Int32)) (fun l => some l) 256 0 fu (by omega) (by omega) with ⟨b, -, h2, h3, h4, h5⟩ | ⟨h1, h2⟩
    · rcases wayM (v_given := v_given) hR hM hw p (fun _ l => some l) 256 fu (-1) (by omega) (by omega) with ⟨b', q1, q2, q3, q4⟩ | ⟨q1, q2⟩
      · have : b = b' := by
          rcases Nat.lt_trichotomy b b' with z | z | z
          · exact absurd (by rw [hg b h2]; exact q3 b z) h3
          · exact z
          · exact absurd (by rw [← hg b' q1]; exact h4 b' (Nat.zero_le _) z) q2
        subst this
        exact ⟨nI b, h5, q4⟩
      · exact absurd (by rw [hg b h2]; exact q1 b h2) h3
    · rcases wayM (v_given := v_given) hR hM hw p (fun _ l => some l) 256 fu (-1) (by omega) (by omega) with ⟨b', q1, q2, q3, q4⟩ | ⟨q1, q2⟩
      · exact absurd (by rw [← hg b' q1]; exact h1 b' (Nat.zero_le _) q1) q2
      · exact ⟨-1, h2, q2⟩
theorem char_in {n j : Nat} (hn : n ≤ 40) (hj : j < n) {ch : Nat → Int32} (ho : okc (ch j)) : f_Typed_characterAt (nI j) (nI n) ch = some (ch j) := by
  unfold f_Typed_characterAt
  rw [ifF (nI_pos (by omega)), ifF (nI_ge hj (by omega)), ifT (inB_nI (by omega) (by omega)), nI_clamp (by omega), ifT (okc_char ho).1]
theorem okc_nat {c : Int32} (h : okc c) : ∃ b, 33 ≤ b ∧ b ≤ 126 ∧ c = nI b := by
  have e33 : (33 : Int32).toInt = 33 := by decide
  have e0 : (0 : Int32).toInt = 0 := by decide
  have h1 : ¬ c.toInt < (33 : Int32).toInt := fun q => h.1 (Int32.lt_iff_toInt_lt.mpr q)
  obtain ⟨j, hj, rfl⟩ := nI_of2 (x := c) (M := 126) (n := 126) (by decide) (fun q => by
    have := Int32.lt_iff_toInt_lt.mp q
    omega) h.2
  rw [nI_toInt (by omega)] at h1
  exact ⟨j, by omega, hj, rfl⟩
theorem match_loop {S M C : Nat} {co : Nat → Nat} {ld : Nat → Nat → Nat} {kn so st : Nat → Nat} (hR : TR S M C co ld kn so st) (hT : TC S M C co ld kn so st bb_stateCount bb_kindOf bb_stateOfKind bb_setOfState ss_count ss_leads zz_columnCount zz_columnOf) (hM : TM S M C co ld kn so st v_states v_sets v_classOf v_kind v_leads v_stateOf v_setOf) {n : Nat} (hn : n ≤ 40) (ht : ∀ j, j < n → tt_ch j = v_typed j ∧ okc (v_typed j)) (k1 k2 : Int32 → Int32 → Option (Int32 × Int32)) : ∀ (d i f s : Nat), i + d = n → d < f → s < S → ∃ s', s' < S ∧ f_G_match_L16 (nI n) tt_ch bb_stateCount bb_kindOf bb_stateOfKind bb_setOfState ss_count ss_leads zz_columnCount zz_columnOf k1 f (nI i) (nI s) = k1 (nI n) (nI s') ∧ f_M_match_L13 (nI n) v_typed v_classOf v_kind v_leads v_stateOf v_setOf k2 f (nI i) (nI s) = k2 (nI n) (nI s')
  | 0, i, f, s, hi, hf, hs => by
    obtain ⟨f, rfl⟩ : ∃ g, f = g + 1 := ⟨f - 1, by omega⟩
    have : i = n := by omega
    subst this
    exact ⟨s, hs, by rw [f_G_match_L16_s, ifT (nI_le (Nat.le_refl _) (by omega))], by rw [f_M_match_L13_s, ifT (nI_le (Nat.le_refl _) (by omega))]⟩
  | d + 1, i, f, s, hi, hf, hs => by
    obtain ⟨f, rfl⟩ : ∃ g, f = g + 1 := ⟨f - 1, by omega⟩
    obtain ⟨t1, t2⟩ := ht i (by omega)
    obtain ⟨b, b1, b2, eb⟩ := okc_nat t2
    have hx := hR.2.2.2.2.2.2.2.2 s b hs (by omega)
    obtain ⟨s', q1, q2, q3⟩ := match_loop hR hT hM hn ht k1 k2 d (i + 1) f _ (by omega) (by omega) hx
    refine ⟨s', q1, ?_, ?_⟩
    · rw [f_G_match_L16_s, ifF (nI_ge (by omega) (by omega)), char_in hn (by omega) (by rw [t1]; exact t2)]
      show Option.bind (f_Table_step (nI s) (tt_ch i) bb_stateCount bb_kindOf bb_stateOfKind bb_setOfState ss_count ss_leads zz_columnCount zz_columnOf) _ = _
      rw [t1, eb, step_in hR hT hs (by omega), ← q2, nI_1]
      rfl
    · rw [f_M_match_L13_s, ifF (nI_ge (by omega) (by omega)), ifT (inB_nI (by omega) (by omega)), nI_clamp (by omega), eb, lead_in hR hM hs (by omega), ← q3, nI_1]
      rfl
theorem match_ok {fu : Nat} (hfu : 300 ≤ fu) (hI : InvT tt_length tt_ch v_size v_typed) (h : InvB bb_stateCount bb_kindOf bb_stateOfKind bb_setOfState bb_permissionsOf ss_count ss_leads zz_columnCount zz_columnOf qq_walkState v_states v_sets v_walker v_classOf v_kind v_leads v_stateOf v_setOf v_given) : ∃ r l s, f_G_match fu tt_length tt_ch bb_stateCount bb_kindOf bb_stateOfKind bb_setOfState bb_permissionsOf ss_count ss_leads zz_columnCount zz_columnOf = some (r, l) ∧ f_M_match fu v_size v_states v_typed v_classOf v_given v_kind v_leads v_stateOf v_setOf = some (r, s) ∧ InvT l tt_ch s v_typed := by
  rcases h with ⟨rfl, rfl⟩ | ⟨S, M, C, co, ld, kn, so, st, w, hR, hT, hM, hG, hw, -⟩
  · exact ⟨-1, tt_length, v_size, by unfold f_G_match; rw [made_0]; rfl, rfl, hI⟩
  · obtain ⟨n, hn, rfl, rfl, ht⟩ := hI
    have hs0 : ¬ v_states = 0 := by rw [hM.1]; exact nI_ne0 (by have := hR.1; omega) (by have := hR.2.1; omega)
    obtain ⟨s', q1, q2, q3⟩ := match_loop hR hT hM hn ht (fun l2_16 l1_16 => (Option.bind (f_Typed_clear) fun ytt_length_9 => (Option.bind (f_Table_permissionsAt l1_16 bb_stateCount bb_permissionsOf) fun r11 => some (r11, ytt_length_9)))) (fun l2_13 l1_13 => (Option.bind (f_M_gives l1_13 v_states v_given v_setOf) fun r6 => some (r6, (0 : Int32)))) n 0 fu 0 (by omega) (by omega) hR.1
    refine ⟨v_given (so s'), 0, 0, ?_, ?_, 0, by omega, rfl, rfl, fun j hj => by omega⟩
    · have q : f_Table_isMade bb_stateCount = some 1 := by rw [hT.1]; exact made_S hR.1 hR.2.1
      unfold f_G_match
      rw [q]
      refine Eq.trans q2 ?_
      show Option.bind (f_Table_permissionsAt (nI s') bb_stateCount bb_permissionsOf) _ = _
      rw [hT.1, per_in hR.2.1 q1, hG _ q1]
      rfl
    · unfold f_M_match
      rw [ifF hs0]
      refine Eq.trans q3 ?_
      show Option.bind (f_M_gives (nI s') v_states v_given v_setOf) _ = _
      rw [giv_in hR hM q1]
      rfl
end OPS
