/-! compile: the rules are joined, the table is made -/
theorem sumn_le (cn : Nat → Nat) {r : Nat} : ∀ R, r ≤ R → sumn cn r ≤ sumn cn R
  | 0, h => by
    have : r = 0 := by omega
    subst this; exact Nat.le_refl _
  | R + 1, h => by
    by_cases e : r = R + 1
    · subst e; exact Nat.le_refl _
    · have := sumn_le cn R (show r ≤ R by omega)
      rw [sumn]; omega
theorem tN_ok {c : Int32} (h : okc c) : c = nI c.toNatClampNeg ∧ 33 ≤ c.toNatClampNeg ∧ c.toNatClampNeg ≤ 126 := by
  obtain ⟨b, b1, b2, rfl⟩ := okc_nat h
  rw [nI_clamp (by omega)]
  exact ⟨rfl, b1, b2⟩
section CMP
variable {qq_pi : Nat → Nat} {ba_al ba_pe ba_pc : Nat → Int32} {ba_en : Nat → Int64} {ba_bh ba_rd : Nat → Nat → Int64} {v_glob v_length v_allows v_permissions v_many : Nat → Int32}
theorem cp_loop {R fu : Nat} {cn : Nat → Nat} (hfu : 300 ≤ fu) (hR : R ≤ 6) (hpi : ∀ j, j < 6 → qq_pi j < 6) (hok : ∀ r, r < R → RuleOK Gl (ba_al (qq_pi r)) (ba_pe (qq_pi r)) (ba_pc (qq_pi r)) (ba_bh (qq_pi r)) (ba_rd (qq_pi r)) (ba_en (qq_pi r)) v_glob (v_length r) (v_allows r) (v_permissions r) (v_many r) (40 * r) (cn r)) (hsum : sumn cn R ≤ 60) (kk : (Int32 → Int32 → Int32 → (Nat → Int64) → (Nat → Int64) → (Nat → Int64) → (Nat → Int32) → (Nat → Int32) → Option (Int32 × Int32 × Int32 × Int32 × (Nat → Int32) × (Nat → Int32) × (Nat → Int32) × (Nat → Int32) × (Nat → Int32) × (Nat → Int32) × Int32 × (Nat → Int64) × (Nat → Int32) × (Nat → Int32) × Int32 × Int32 × Int32 × (Nat → Int64) × (Nat → Int64) × (Nat → Int32) × (Nat → Int64) × (Nat → Int64) × (Nat → Int32) × (Nat → Int32)))) (km : (Int32 → Int32 → Int32 → Int64 → Int32 → (Nat → Int32) → (Nat → Int32) → (Nat → Int32) → (Nat → Int32) → (Nat → Int32) → (Nat → Int32) → (Nat → Int64) → (Nat → Int32) → (Nat → Int64) → (Nat → Int32) → (Nat → Int32) → Option (Int32 × Int32 × Int32 × Int64 × Int32 × Int32 × Int32 × Int32 × Int32 × (Nat → Int32) × (Nat → Int32) × (Nat → Int32) × (Nat → Int32) × (Nat → Int32) × (Nat → Int32) × (Nat → Int64) × (Nat → Int32) × (Nat → Int64) × (Nat → Int32) × (Nat → Int32) × (Nat → Int32) × (Nat → Int32) × (Nat → Int64) × (Nat → Int32) × (Nat → Int32) × (Nat → Int32) × (Nat → Int32) × (Nat → Int32) × (Nat → Int32)))) : ∀ (d r f f' : Nat) (zb Rd zE : Nat → Int64) (zA zD : Nat → Int32) (it : Int32) (vF : Int64) (vE : Int32) (so pi on op sn st : Nat → Int32) (vB : Nat → Int64) (vS : Nat → Int32) (vBh : Nat → Int64) (vEn vRo : Nat → Int32), r + d = R → d < f → d < f' → UI (sumn cn r) r zb Rd zE zA zD vF vE v_allows v_permissions vB vBh vEn vRo →
    ∃ (zb' Rd' zE' : Nat → Int64) (zA' zD' : Nat → Int32) (it' : Int32) (vF' : Int64) (vE' : Int32) (so' pi' on' op' sn' st' : Nat → Int32) (vB' : Nat → Int64) (vS' : Nat → Int32) (vBh' : Nat → Int64) (vEn' vRo' : Nat → Int32), f_G_compile_L23 (nI R) qq_pi ba_al ba_pe ba_pc ba_en ba_bh ba_rd fu kk f (nI r) (nI (sumn cn r)) (nI r) zb Rd zE zA zD = kk (nI R) (nI (sumn cn R)) (nI R) zb' Rd' zE' zA' zD' ∧ f_M_compile_L40 (nI R) v_glob v_length fu km f' (nI r) it (nI (sumn cn r)) vF vE so pi on op sn st vB vS vBh vEn vRo = km (nI R) it' (nI (sumn cn R)) vF' vE' so' pi' on' op' sn' st' vB' vS' vBh' vEn' vRo' ∧ UI (sumn cn R) R zb' Rd' zE' zA' zD' vF' vE' v_allows v_permissions vB' vBh' vEn' vRo' := by
  intro d
  induction d with
  | zero =>
    intro r f f' zb Rd zE zA zD it vF vE so pi on op sn st vB vS vBh vEn vRo hd hf hf' hU
    obtain ⟨f, rfl⟩ : ∃ g, f = g + 1 := ⟨f - 1, by omega⟩
    obtain ⟨f', rfl⟩ : ∃ g, f' = g + 1 := ⟨f' - 1, by omega⟩
    have : r = R := by omega
    subst this
    rw [f_G_compile_L23_s, f_M_compile_L40_s, ifT (nI_le (Nat.le_refl _) (by omega)), ifT (nI_le (Nat.le_refl _) (by omega))]
    exact ⟨zb, Rd, zE, zA, zD, it, vF, vE, so, pi, on, op, sn, st, vB, vS, vBh, vEn, vRo, rfl, rfl, hU⟩
  | succ d ih =>
    intro r f f' zb Rd zE zA zD it vF vE so pi on op sn st vB vS vBh vEn vRo hd hf hf' hU
    obtain ⟨f, rfl⟩ : ∃ g, f = g + 1 := ⟨f - 1, by omega⟩
    obtain ⟨f', rfl⟩ : ∃ g, f' = g + 1 := ⟨f' - 1, by omega⟩
    have hr : r < R := by omega
    obtain ⟨t, n, t1, t2, t3, t4, t5, t6, t7, t8, t9, a, x, kd, sr, S, g1, g2, g3, g4, g5⟩ := hok r hr
    have hs1 : sumn cn (r + 1) = sumn cn r + cn r := rfl
    have hs2 := sumn_le cn R (show r + 1 ≤ R by omega)
    have hx40 : x ≤ 40 := by have := g3.1; have := g3.2.1; omega
    have hpx := pn_le (kd := kd) x
    have hP : sumn cn r + pn kd x ≤ 60 := by omega
    have hT : TXM (tN t) n (40 * r) 240 v_glob := ⟨t1, by omega, by omega, fun j hj => by
      obtain ⟨q1, q2⟩ := t3 j hj
      obtain ⟨o1, o2, o3⟩ := tN_ok q2
      exact ⟨by rw [q1]; exact o1, o2, o3⟩⟩
    obtain ⟨zb1, Rd1, zE1, c0, c1, c2, c3, c4, c5, c6⟩ := add_ok (bh := ba_bh (qq_pi r)) (rd := ba_rd (qq_pi r)) hP (by omega) (show r < 6 by omega) (by omega : 200 ≤ fu) zb Rd zE zA zD (ba_al (qq_pi r)) (ba_pe (qq_pi r)) (ba_en (qq_pi r))
    obtain ⟨w0, vE1, so1, pi1, on1, op1, sn1, st1, vB1, vS1, vBh1, vEn1, vRo1, m0, m1, m2, m3, m4, m5⟩ := lay_ok (vB0 := vB) hfu (show r < 6 by omega) hT t2 g1 hP (by omega) vF vE so pi on op sn st vS vBh vEn vRo
    have hU1 := ui_step hU (show r < 6 by omega) hP hx40 g3 g4 g5 c1 c2 c3 c4 c5 c6 m1 m2 m3 m4 m5
    rw [← t4, ← t6] at hU1
    rw [← g2, ← hs1] at hU1 c0 m0
    obtain ⟨zb2, Rd2, zE2, zA2, zD2, it2, vF2, vE2, so2, pi2, on2, op2, sn2, st2, vB2, vS2, vBh2, vEn2, vRo2, e1, e2, e3⟩ := ih (r + 1) f f' zb1 Rd1 zE1 _ _ (nI (x + 1)) (vF ||| w0) vE1 so1 pi1 on1 op1 sn1 st1 vB1 vS1 vBh1 vEn1 vRo1 (by omega) (by omega) (by omega) hU1
    refine ⟨zb2, Rd2, zE2, zA2, zD2, it2, vF2, vE2, so2, pi2, on2, op2, sn2, st2, vB2, vS2, vBh2, vEn2, vRo2, ?_, ?_, e3⟩
    · rw [f_G_compile_L23_s, ifF (nI_ge hr (by omega)), ruleAt_in hR hr, ob]
      show (if qq_pi r < 6 then _ else _) = _
      rw [ifT (hpi r (by omega)), t8, c0, ob]
      dsimp only
      rw [nI_1]
      exact e1
    · rw [f_M_compile_L40_s, ifF (nI_ge hr (by omega)), m0, ob]
      dsimp only
      rw [nI_1]
      exact e2
theorem compile_ok {fu : Nat} (hfu : 1000 ≤ fu) {qq_ruleCount : Int32} {qq_walkState : Int32} {qq_pi : Nat → Nat} {rr_at : Int32} {rr_fault : Int32} {tt_length : Int32} {tt_ch : Nat → Int32} {gg_pieceCount : Int32} {gg_depth : Int32} {gg_ends : Int64} {gg_behind : Nat → Int64} {gg_readersOf : Nat → Int64} {gg_endsBefore : Nat → Int64} {gg_endsOfRows : Nat → Int64} {gg_rowCount : Nat → Int32} {bb_kindCount : Int32} {bb_stateCount : Int32} {bb_kindOf : Nat → Int32} {bb_finerKindOf : Nat → Int32} {bb_leaderOf : Nat → Int32} {bb_stateOfKind : Nat → Int32} {bb_setOfState : Nat → Int32} {bb_permissionsOf : Nat → Int32} {ss_count : Int32} {ss_found : Nat → Int64} {ss_leads : Nat → Int32} {ss_slots : Nat → Int32} {zz_pieceCount : Int32} {zz_ruleCount : Int32} {zz_columnCount : Int32} {zz_behind : Nat → Int64} {zz_readersOf : Nat → Int64} {zz_columnOf : Nat → Int32} {zz_readersOfColumn : Nat → Int64} {zz_endsOf : Nat → Int64} {zz_allowedBy : Nat → Int32} {zz_deniedBy : Nat → Int32} {ba_al : Nat → Int32} {ba_pe : Nat → Int32} {ba_pc : Nat → Int32} {ba_de : Nat → Int32} {ba_en : Nat → Int64} {ba_bh : Nat → Nat → Int64} {ba_rd : Nat → Nat → Int64} {ba_eb : Nat → Nat → Int64} {ba_eo : Nat → Nat → Int64} {ba_rc : Nat → Nat → Int32} {v_size : Int32} {v_rules : Int32} {v_items : Int32} {v_pieces : Int32} {v_first : Int64} {v_emptyOf : Int32} {v_classes : Int32} {v_sets : Int32} {v_states : Int32} {v_walker : Int32} {v_typed : Nat → Int32} {v_glob : Nat → Int32} {v_length : Nat → Int32} {v_allows : Nat → Int32} {v_permissions : Nat → Int32} {v_many : Nat → Int32} {v_sort : Nat → Int32} {v_piece : Nat → Int32} {v_onward : Nat → Int32} {v_open : Nat → Int32} {v_seen : Nat → Int32} {v_stack : Nat → Int32} {v_bytes : Nat → Int64} {v_star : Nat → Int32} {v_behind : Nat → Int64} {v_ends : Nat → Int32} {v_ruleOf : Nat → Int32} {v_classOf : Nat → Int32} {v_example : Nat → Int32} {v_set : Nat → Int64} {v_given : Nat → Int32} {v_kind : Nat → Int32} {v_finer : Nat → Int32} {v_leads : Nat → Int32} {v_stateOf : Nat → Int32} {v_setOf : Nat → Int32} (p1 : Int32) (hR : InvR Gl qq_ruleCount qq_pi ba_al ba_pe ba_pc ba_en ba_bh ba_rd v_rules v_glob v_length v_allows v_permissions v_many) (hB : InvB bb_stateCount bb_kindOf bb_stateOfKind bb_setOfState bb_permissionsOf ss_count ss_leads zz_columnCount zz_columnOf qq_walkState v_states v_sets v_walker v_classOf v_kind v_leads v_stateOf v_setOf v_given) (hP : ∃ P, P ≤ 60 ∧ v_pieces = nI P) : ∃ (r_ : Int32) (x_qq_walkState : Int32) (x_bb_kindCount : Int32) (x_bb_stateCount : Int32) (x_bb_kindOf : Nat → Int32) (x_bb_finerKindOf : Nat → Int32) (x_bb_leaderOf : Nat → Int32) (x_bb_stateOfKind : Nat → Int32) (x_bb_setOfState : Nat → Int32) (x_bb_permissionsOf : Nat → Int32) (x_ss_count : Int32) (x_ss_found : Nat → Int64) (x_ss_leads : Nat → Int32) (x_ss_slots : Nat → Int32) (x_zz_pieceCount : Int32) (x_zz_ruleCount : Int32) (x_zz_columnCount : Int32) (x_zz_behind : Nat → Int64) (x_zz_readersOf : Nat → Int64) (x_zz_columnOf : Nat → Int32) (x_zz_readersOfColumn : Nat → Int64) (x_zz_endsOf : Nat → Int64) (x_zz_allowedBy : Nat → Int32) (x_zz_deniedBy : Nat → Int32) (y_v_items : Int32) (y_v_pieces : Int32) (y_v_first : Int64) (y_v_emptyOf : Int32) (y_v_classes : Int32) (y_v_sets : Int32) (y_v_states : Int32) (y_v_walker : Int32) (y_v_sort : Nat → Int32) (y_v_piece : Nat → Int32) (y_v_onward : Nat → Int32) (y_v_open : Nat → Int32) (y_v_seen : Nat → Int32) (y_v_stack : Nat → Int32) (y_v_bytes : Nat → Int64) (y_v_star : Nat → Int32) (y_v_behind : Nat → Int64) (y_v_ends : Nat → Int32) (y_v_ruleOf : Nat → Int32) (y_v_classOf : Nat → Int32) (y_v_example : Nat → Int32) (y_v_set : Nat → Int64) (y_v_given : Nat → Int32) (y_v_kind : Nat → Int32) (y_v_finer : Nat → Int32) (y_v_leads : Nat → Int32) (y_v_stateOf : Nat → Int32) (y_v_setOf : Nat → Int32), f_G_compile fu p1 qq_ruleCount qq_walkState qq_pi bb_kindCount bb_stateCount bb_kindOf bb_finerKindOf bb_leaderOf bb_stateOfKind bb_setOfState bb_permissionsOf ss_count ss_found ss_leads ss_slots zz_pieceCount zz_ruleCount zz_columnCount zz_behind zz_readersOf zz_columnOf zz_readersOfColumn zz_endsOf zz_allowedBy zz_deniedBy ba_al ba_pe ba_pc ba_en ba_bh ba_rd = some (r_, x_qq_walkState, x_bb_kindCount, x_bb_stateCount, x_bb_kindOf, x_bb_finerKindOf, x_bb_leaderOf, x_bb_stateOfKind, x_bb_setOfState, x_bb_permissionsOf, x_ss_count, x_ss_found, x_ss_leads, x_ss_slots, x_zz_pieceCount, x_zz_ruleCount, x_zz_columnCount, x_zz_behind, x_zz_readersOf, x_zz_columnOf, x_zz_readersOfColumn, x_zz_endsOf, x_zz_allowedBy, x_zz_deniedBy) ∧ f_M_compile fu p1 v_rules v_items v_pieces v_first v_emptyOf v_classes v_sets v_states v_walker v_glob v_length v_allows v_permissions v_sort v_piece v_onward v_open v_seen v_stack v_bytes v_star v_behind v_ends v_ruleOf v_classOf v_example v_set v_given v_kind v_finer v_leads v_stateOf v_setOf = some (r_, y_v_items, y_v_pieces, y_v_first, y_v_emptyOf, y_v_classes, y_v_sets, y_v_states, y_v_walker, y_v_sort, y_v_piece, y_v_onward, y_v_open, y_v_seen, y_v_stack, y_v_bytes, y_v_star, y_v_behind, y_v_ends, y_v_ruleOf, y_v_classOf, y_v_example, y_v_set, y_v_given, y_v_kind, y_v_finer, y_v_leads, y_v_stateOf, y_v_setOf) ∧ InvB x_bb_stateCount x_bb_kindOf x_bb_stateOfKind x_bb_setOfState x_bb_permissionsOf x_ss_count x_ss_leads x_zz_columnCount x_zz_columnOf x_qq_walkState y_v_states y_v_sets y_v_walker y_v_classOf y_v_kind y_v_leads y_v_stateOf y_v_setOf y_v_given ∧ ∃ P, P ≤ 60 ∧ y_v_pieces = nI P := by
  obtain ⟨R, cn, r1, r2, r3, r4, r5, r6, r7⟩ := hR
  subst r2 r3
  by_cases c1 : p1 < 1
  · refine ⟨-2, qq_walkState, bb_kindCount, bb_stateCount, bb_kindOf, bb_finerKindOf, bb_leaderOf, bb_stateOfKind, bb_setOfState, bb_permissionsOf, ss_count, ss_found, ss_leads, ss_slots, zz_pieceCount, zz_ruleCount, zz_columnCount, zz_behind, zz_readersOf, zz_columnOf, zz_readersOfColumn, zz_endsOf, zz_allowedBy, zz_deniedBy, v_items, v_pieces, v_first, v_emptyOf, v_classes, v_sets, v_states, v_walker, v_sort, v_piece, v_onward, v_open, v_seen, v_stack, v_bytes, v_star, v_behind, v_ends, v_ruleOf, v_classOf, v_example, v_set, v_given, v_kind, v_finer, v_leads, v_stateOf, v_setOf, ?_, ?_, hB, hP⟩
    · unfold f_G_compile
      exact ifT c1
    · unfold f_M_compile
      rw [in_eq, ifT c1, ob, ifT rfl]
  · by_cases c2 : p1 ≤ 120
    · obtain ⟨cap, hcap, rfl⟩ := nI_of2 (x := p1) (M := 120) (n := 120) (by decide) (fun q => c1 (by
        have e1 : (1 : Int32).toInt = 1 := by decide
        have e0 : (0 : Int32).toInt = 0 := by decide
        have := Int32.lt_iff_toInt_lt.mp q
        rw [Int32.lt_iff_toInt_lt]
        omega)) c2
      have hcap1 : 1 ≤ cap := Nat.pos_of_ne_zero fun z => c1 (by rw [z]; decide)
      obtain ⟨zb0, f1, f2, f3⟩ := fillJ_ok (N := 61) (fu := fu) (by omega) (by omega) 0 zz_behind
      obtain ⟨Rd0, f4, f5, f6⟩ := fillJ_ok (N := 95) (fu := fu) (by omega) (by omega) 0 zz_readersOf
      have hU0 : UI (sumn cn 0) 0 zb0 Rd0 zz_endsOf zz_allowedBy zz_deniedBy 0 0 v_allows v_permissions v_bytes v_behind v_ends v_ruleOf := UI0 (f2 0 (by omega)) f5
      obtain ⟨zb', Rd', zE', zA', zD', it', vF', vE', so', pi', on', op', sn', st', vB', vS', vBh', vEn', vRo', e1, e2, ro, hU, -, -⟩ := cp_loop (by omega : 300 ≤ fu) r1 r4 r6 r7 (fun l2_23 zz_pieceCount_23 zz_ruleCount_23 zz_behind_23 zz_readersOf_23 zz_endsOf_23 zz_allowedBy_23 zz_deniedBy_23 => (Option.bind (f_Union_groupSymbols fu zz_readersOf_23 zz_columnOf zz_readersOfColumn) fun (yzz_columnCount_69, yzz_columnOf_70, yzz_readersOfColumn_71) => (Option.bind (f_Table_make fu (nI cap) bb_kindCount bb_kindOf bb_finerKindOf bb_leaderOf bb_stateOfKind bb_setOfState bb_permissionsOf ss_found ss_leads ss_slots zz_ruleCount_23 yzz_columnCount_69 zz_behind_23 yzz_readersOfColumn_71 zz_endsOf_23 zz_allowedBy_23 zz_deniedBy_23) fun (r73, ybb_kindCount_74, ybb_stateCount_75, ybb_kindOf_76, ybb_finerKindOf_77, ybb_leaderOf_78, ybb_stateOfKind_79, ybb_setOfState_80, ybb_permissionsOf_81, yss_count_82, yss_found_83, yss_leads_84, yss_slots_85) => (if r73 = 0 then some ((-1 : Int32), (0 : Int32), ybb_kindCount_74, ybb_stateCount_75, ybb_kindOf_76, ybb_finerKindOf_77, ybb_leaderOf_78, ybb_stateOfKind_79, ybb_setOfState_80, ybb_permissionsOf_81, yss_count_82, yss_found_83, yss_leads_84, yss_slots_85, zz_pieceCount_23, zz_ruleCount_23, yzz_columnCount_69, zz_behind_23, zz_readersOf_23, yzz_columnOf_70, yzz_readersOfColumn_71, zz_endsOf_23, zz_allowedBy_23, zz_deniedBy_23) else some (ybb_stateCount_75, (0 : Int32), ybb_kindCount_74, ybb_stateCount_75, ybb_kindOf_76, ybb_finerKindOf_77, ybb_leaderOf_78, ybb_stateOfKind_79, ybb_setOfState_80, ybb_permissionsOf_81, yss_count_82, yss_found_83, yss_leads_84, yss_slots_85, zz_pieceCount_23, zz_ruleCount_23, yzz_columnCount_69, zz_behind_23, zz_readersOf_23, yzz_columnOf_70, yzz_readersOfColumn_71, zz_endsOf_23, zz_allowedBy_23, zz_deniedBy_23))))) (fun l2_40 v_items_40 v_pieces_40 v_first_40 v_emptyOf_40 v_sort_40 v_piece_40 v_onward_40 v_open_40 v_seen_40 v_stack_40 v_bytes_40 v_star_40 v_behind_40 v_ends_40 v_ruleOf_40 => (Option.bind (f_M_classify fu v_pieces_40 v_bytes_40 v_classOf v_example) fun (yv_classes_21, yv_classOf_22, yv_example_23) => (Option.bind (f_M_findSets fu (nI cap) (nI R) v_pieces_40 v_first_40 v_emptyOf_40 yv_classes_21 v_allows v_permissions v_bytes_40 v_behind_40 v_ends_40 v_ruleOf_40 yv_example_23 v_set v_given v_leads) fun (r25, yv_sets_26, yv_set_27, yv_given_28, yv_leads_29) => (if r25 = 0 then some ((-1 : Int32), v_items_40, v_pieces_40, v_first_40, v_emptyOf_40, yv_classes_21, yv_sets_26, (0 : Int32), (0 : Int32), v_sort_40, v_piece_40, v_onward_40, v_open_40, v_seen_40, v_stack_40, v_bytes_40, v_star_40, v_behind_40, v_ends_40, v_ruleOf_40, yv_classOf_22, yv_example_23, yv_set_27, yv_given_28, v_kind, v_finer, yv_leads_29, v_stateOf, v_setOf) else (Option.bind (f_M_findKinds fu yv_classes_21 yv_sets_26 yv_given_28 v_kind v_finer yv_leads_29) fun (yv_kind_32, yv_finer_33) => (Option.bind (f_M_number fu yv_classOf_22 yv_kind_32 yv_leads_29 v_stateOf v_setOf) fun (yv_states_35, yv_stateOf_36, yv_setOf_37) => some (yv_states_35, v_items_40, v_pieces_40, v_first_40, v_emptyOf_40, yv_classes_21, yv_sets_26, yv_states_35, (0 : Int32), v_sort_40, v_piece_40, v_onward_40, v_open_40, v_seen_40, v_stack_40, v_bytes_40, v_star_40, v_behind_40, v_ends_40, v_ruleOf_40, yv_classOf_22, yv_example_23, yv_set_27, yv_given_28, yv_kind_32, yv_finer_33, yv_leads_29, yv_stateOf_36, yv_setOf_37))))))) R 0 fu fu zb0 Rd0 zz_endsOf zz_allowedBy zz_deniedBy v_items 0 0 v_sort v_piece v_onward v_open v_seen v_stack v_bytes v_star v_behind v_ends v_ruleOf (by omega) (by omega) (by omega) hU0
      obtain ⟨C, co, rep, zcol, rc, vcl, vex, k1, k2, k3, k4, k5, k6, k7⟩ := cols_ok (fu := fu) hU.hP (by omega) hU.rd zz_columnOf zz_readersOfColumn v_classOf v_example
      have hA := hU.ag (fu := fu) (by omega) k7
      have hG : f_G_compile fu (nI cap) (nI R) qq_walkState qq_pi bb_kindCount bb_stateCount bb_kindOf bb_finerKindOf bb_leaderOf bb_stateOfKind bb_setOfState bb_permissionsOf ss_count ss_found ss_leads ss_slots zz_pieceCount zz_ruleCount zz_columnCount zz_behind zz_readersOf zz_columnOf zz_readersOfColumn zz_endsOf zz_allowedBy zz_deniedBy ba_al ba_pe ba_pc ba_en ba_bh ba_rd = (fun l2_23 zz_pieceCount_23 zz_ruleCount_23 zz_behind_23 zz_readersOf_23 zz_endsOf_23 zz_allowedBy_23 zz_deniedBy_23 => (Option.bind (f_Union_groupSymbols fu zz_readersOf_23 zz_columnOf zz_readersOfColumn) fun (yzz_columnCount_69, yzz_columnOf_70, yzz_readersOfColumn_71) => (Option.bind (f_Table_make fu (nI cap) bb_kindCount bb_kindOf bb_finerKindOf bb_leaderOf bb_stateOfKind bb_setOfState bb_permissionsOf ss_found ss_leads ss_slots zz_ruleCount_23 yzz_columnCount_69 zz_behind_23 yzz_readersOfColumn_71 zz_endsOf_23 zz_allowedBy_23 zz_deniedBy_23) fun (r73, ybb_kindCount_74, ybb_stateCount_75, ybb_kindOf_76, ybb_finerKindOf_77, ybb_leaderOf_78, ybb_stateOfKind_79, ybb_setOfState_80, ybb_permissionsOf_81, yss_count_82, yss_found_83, yss_leads_84, yss_slots_85) => (if r73 = 0 then some ((-1 : Int32), (0 : Int32), ybb_kindCount_74, ybb_stateCount_75, ybb_kindOf_76, ybb_finerKindOf_77, ybb_leaderOf_78, ybb_stateOfKind_79, ybb_setOfState_80, ybb_permissionsOf_81, yss_count_82, yss_found_83, yss_leads_84, yss_slots_85, zz_pieceCount_23, zz_ruleCount_23, yzz_columnCount_69, zz_behind_23, zz_readersOf_23, yzz_columnOf_70, yzz_readersOfColumn_71, zz_endsOf_23, zz_allowedBy_23, zz_deniedBy_23) else some (ybb_stateCount_75, (0 : Int32), ybb_kindCount_74, ybb_stateCount_75, ybb_kindOf_76, ybb_finerKindOf_77, ybb_leaderOf_78, ybb_stateOfKind_79, ybb_setOfState_80, ybb_permissionsOf_81, yss_count_82, yss_found_83, yss_leads_84, yss_slots_85, zz_pieceCount_23, zz_ruleCount_23, yzz_columnCount_69, zz_behind_23, zz_readersOf_23, yzz_columnOf_70, yzz_readersOfColumn_71, zz_endsOf_23, zz_allowedBy_23, zz_deniedBy_23))))) (nI R) (nI (sumn cn R)) (nI R) zb' Rd' zE' zA' zD' := by
        unfold f_G_compile f_Union_clear
        rw [ifF c1, ifT c2, f1, ob, f4, ob, ob]
        exact e1
      have hM : f_M_compile fu (nI cap) (nI R) v_items v_pieces v_first v_emptyOf v_classes v_sets v_states v_walker v_glob v_length v_allows v_permissions v_sort v_piece v_onward v_open v_seen v_stack v_bytes v_star v_behind v_ends v_ruleOf v_classOf v_example v_set v_given v_kind v_finer v_leads v_stateOf v_setOf = (fun l2_40 v_items_40 v_pieces_40 v_first_40 v_emptyOf_40 v_sort_40 v_piece_40 v_onward_40 v_open_40 v_seen_40 v_stack_40 v_bytes_40 v_star_40 v_behind_40 v_ends_40 v_ruleOf_40 => (Option.bind (f_M_classify fu v_pieces_40 v_bytes_40 v_classOf v_example) fun (yv_classes_21, yv_classOf_22, yv_example_23) => (Option.bind (f_M_findSets fu (nI cap) (nI R) v_pieces_40 v_first_40 v_emptyOf_40 yv_classes_21 v_allows v_permissions v_bytes_40 v_behind_40 v_ends_40 v_ruleOf_40 yv_example_23 v_set v_given v_leads) fun (r25, yv_sets_26, yv_set_27, yv_given_28, yv_leads_29) => (if r25 = 0 then some ((-1 : Int32), v_items_40, v_pieces_40, v_first_40, v_emptyOf_40, yv_classes_21, yv_sets_26, (0 : Int32), (0 : Int32), v_sort_40, v_piece_40, v_onward_40, v_open_40, v_seen_40, v_stack_40, v_bytes_40, v_star_40, v_behind_40, v_ends_40, v_ruleOf_40, yv_classOf_22, yv_example_23, yv_set_27, yv_given_28, v_kind, v_finer, yv_leads_29, v_stateOf, v_setOf) else (Option.bind (f_M_findKinds fu yv_classes_21 yv_sets_26 yv_given_28 v_kind v_finer yv_leads_29) fun (yv_kind_32, yv_finer_33) => (Option.bind (f_M_number fu yv_classOf_22 yv_kind_32 yv_leads_29 v_stateOf v_setOf) fun (yv_states_35, yv_stateOf_36, yv_setOf_37) => some (yv_states_35, v_items_40, v_pieces_40, v_first_40, v_emptyOf_40, yv_classes_21, yv_sets_26, yv_states_35, (0 : Int32), v_sort_40, v_piece_40, v_onward_40, v_open_40, v_seen_40, v_stack_40, v_bytes_40, v_star_40, v_behind_40, v_ends_40, v_ruleOf_40, yv_classOf_22, yv_example_23, yv_set_27, yv_given_28, yv_kind_32, yv_finer_33, yv_leads_29, yv_stateOf_36, yv_setOf_37))))))) (nI R) it' (nI (sumn cn R)) vF' vE' so' pi' on' op' sn' st' vB' vS' vBh' vEn' vRo' := by
        unfold f_M_compile
        rw [in_eq, ifF c1, ifF (show ¬ (120 : Int32) < nI cap from Int32.not_lt.mpr c2), ob, ifF (by decide)]
        exact e2
      rcases make_ok hA hU.hP k1 hfu hcap hcap1 k2 k5 k6 bb_kindCount bb_kindOf bb_finerKindOf bb_leaderOf bb_stateOfKind bb_setOfState bb_permissionsOf ss_found ss_leads ss_slots v_set v_given v_leads v_kind v_finer v_stateOf v_setOf with ⟨kc, sc, ko, fi, le, sk, so, pe, cnt, F, lc, sl, vs, set, gv, lm, vk, vf, vst, vso, q1, q2, q3, q4, q5⟩ | ⟨kc, ko, fi, le, sk, so, pe, cnt, F, lc, sl, vs, set, gv, lm, q1, q2⟩
      · refine ⟨sc, 0, kc, sc, ko, fi, le, sk, so, pe, cnt, F, lc, sl, nI (sumn cn R), nI R, nI C, zb', Rd', zcol, rc, zE', zA', zD', it', nI (sumn cn R), vF', vE', nI C, vs, sc, 0, so', pi', on', op', sn', st', vB', vS', vBh', vEn', vRo', vcl, vex, set, gv, vk, vf, lm, vst, vso, ?_, ?_, q5, ⟨_, r7, rfl⟩⟩
        · rw [hG]
          dsimp only
          rw [k3, ob]
          dsimp only
          rw [q1, ob]
          rfl
        · rw [hM]
          dsimp only
          rw [k4, ob]
          dsimp only
          rw [q2, ob]
          dsimp only
          rw [ifF (by decide), q3, ob]
          dsimp only
          rw [q4]
          rfl
      · refine ⟨-1, 0, kc, 0, ko, fi, le, sk, so, pe, cnt, F, lc, sl, nI (sumn cn R), nI R, nI C, zb', Rd', zcol, rc, zE', zA', zD', it', nI (sumn cn R), vF', vE', nI C, vs, 0, 0, so', pi', on', op', sn', st', vB', vS', vBh', vEn', vRo', vcl, vex, set, gv, v_kind, v_finer, lm, v_stateOf, v_setOf, ?_, ?_, Or.inl ⟨rfl, rfl⟩, ⟨_, r7, rfl⟩⟩
        · rw [hG]
          dsimp only
          rw [k3, ob]
          dsimp only
          rw [q1, ob]
          rfl
        · rw [hM]
          dsimp only
          rw [k4, ob]
          dsimp only
          rw [q2, ob]
          rfl
    · refine ⟨-2, qq_walkState, bb_kindCount, bb_stateCount, bb_kindOf, bb_finerKindOf, bb_leaderOf, bb_stateOfKind, bb_setOfState, bb_permissionsOf, ss_count, ss_found, ss_leads, ss_slots, zz_pieceCount, zz_ruleCount, zz_columnCount, zz_behind, zz_readersOf, zz_columnOf, zz_readersOfColumn, zz_endsOf, zz_allowedBy, zz_deniedBy, v_items, v_pieces, v_first, v_emptyOf, v_classes, v_sets, v_states, v_walker, v_sort, v_piece, v_onward, v_open, v_seen, v_stack, v_bytes, v_star, v_behind, v_ends, v_ruleOf, v_classOf, v_example, v_set, v_given, v_kind, v_finer, v_leads, v_stateOf, v_setOf, ?_, ?_, hB, hP⟩
      · unfold f_G_compile
        rw [ifF c1, ifF c2]
      · unfold f_M_compile
        rw [in_eq, ifF c1, ifT (Int32.not_le.mp c2), ob, ifT rfl]
end CMP
