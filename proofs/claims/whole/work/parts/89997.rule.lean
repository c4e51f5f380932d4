/-! rule: a glob is read, and kept -/
section RUL2
theorem sumn_cg {cn cn' : Nat → Nat} : ∀ R, (∀ r, r < R → cn r = cn' r) → sumn cn R = sumn cn' R
  | 0, _ => rfl
  | R + 1, h => by rw [sumn, sumn, h R (by omega), sumn_cg R (fun r hr => h r (by omega))]
theorem psC {R : Nat} (hR : R ≤ 6) {qq_pi : Nat → Nat} (hpi : ∀ j, j < 6 → qq_pi j < 6) {ba_pc : Nat → Int32} {cn : Nat → Nat} (h : ∀ r, r < R → ba_pc (qq_pi r) = nI (cn r)) (kk : Int32 → Int32 → Option Int32) : ∀ (d r f : Nat), r + d = R → d < f → f_G_pieceSum_L4 (nI R) qq_pi ba_pc kk f (nI r) (nI (sumn cn r)) = kk (nI R) (nI (sumn cn R))
  | 0, r, f, hd, hf => by
    obtain ⟨f, rfl⟩ : ∃ g, f = g + 1 := ⟨f - 1, by omega⟩
    have : r = R := by omega
    subst this
    rw [f_G_pieceSum_L4_s, ifT (nI_le (Nat.le_refl _) (by omega))]
  | d + 1, r, f, hd, hf => by
    obtain ⟨f, rfl⟩ : ∃ g, f = g + 1 := ⟨f - 1, by omega⟩
    have hr : r < R := by omega
    have e : f_G_pieces (nI r) (nI R) qq_pi ba_pc = some (nI (cn r)) := by
      unfold f_G_pieces
      rw [ruleAt_in hR hr]
      show (if qq_pi r < 6 then (if qq_pi r < 6 then some (ba_pc (qq_pi r)) else none) else none) = _
      rw [ifT (hpi r (by omega)), ifT (hpi r (by omega)), h r hr]
    rw [f_G_pieceSum_L4_s, ifF (nI_ge hr (by omega)), e, ob, nI_1, nI_add]
    exact psC hR hpi h kk d (r + 1) f (by omega) (by omega)
theorem psM {R : Nat} (hR : R ≤ 6) {v_many : Nat → Int32} {cn : Nat → Nat} (h : ∀ r, r < R → v_many r = nI (cn r)) (kk : Int32 → Int32 → Option Int32) : ∀ (d r f : Nat), r + d = R → d < f → f_M_allPieces_L4 (nI R) v_many kk f (nI r) (nI (sumn cn r)) = kk (nI R) (nI (sumn cn R))
  | 0, r, f, hd, hf => by
    obtain ⟨f, rfl⟩ : ∃ g, f = g + 1 := ⟨f - 1, by omega⟩
    have : r = R := by omega
    subst this
    rw [f_M_allPieces_L4_s, ifT (nI_le (Nat.le_refl _) (by omega))]
  | d + 1, r, f, hd, hf => by
    obtain ⟨f, rfl⟩ : ∃ g, f = g + 1 := ⟨f - 1, by omega⟩
    have hr : r < R := by omega
    rw [f_M_allPieces_L4_s, ifF (nI_ge hr (by omega)), ifT (inB_nI (by omega) (by omega)), nI_clamp (by omega), h r hr, nI_1, nI_add]
    exact psM hR h kk d (r + 1) f (by omega) (by omega)
theorem cpM {n R : Nat} (hn : n ≤ 40) (hR : R < 6) {vT : Nat → Int32} (kk : (Int32 → (Nat → Int32) → Option (Int32 × Int32 × Int32 × Int32 × Int32 × Int32 × (Nat → Int32) × (Nat → Int32) × (Nat → Int32) × (Nat → Int32) × (Nat → Int32) × (Nat → Int32) × (Nat → Int32) × (Nat → Int32) × (Nat → Int32) × (Nat → Int64) × (Nat → Int32)))) : ∀ (d k f : Nat) (gl : Nat → Int32), k + d = n → d < f → ∃ gl' : Nat → Int32, f_M_rule_L90 (nI n) (nI R) vT kk f (nI k) gl = kk (nI n) gl' ∧ (∀ i, k ≤ i → i < n → gl' (40 * R + i) = vT i) ∧ ∀ j, ¬ (40 * R + k ≤ j ∧ j < 40 * R + n) → gl' j = gl j
  | 0, k, f, gl, hd, hf => by
    obtain ⟨f, rfl⟩ : ∃ g, f = g + 1 := ⟨f - 1, by omega⟩
    have : k = n := by omega
    subst this
    rw [f_M_rule_L90_s, ifT (nI_le (Nat.le_refl _) (by omega))]
    exact ⟨gl, rfl, fun i h1 h2 => by omega, fun j _ => rfl⟩
  | d + 1, k, f, gl, hd, hf => by
    obtain ⟨f, rfl⟩ : ∃ g, f = g + 1 := ⟨f - 1, by omega⟩
    have e40 : (40 : Int32) * nI R + nI k = nI (40 * R + k) := by rw [show (40 : Int32) = nI 40 from rfl, pk_mul, nI_add]
    obtain ⟨gl', g1, g2, g3⟩ := cpM hn hR kk d (k + 1) f (upd gl (40 * R + k) (vT k)) (by omega) (by omega)
    refine ⟨gl', ?_, fun i h1 h2 => ?_, fun j hj => ?_⟩
    · rw [f_M_rule_L90_s, ifF (nI_ge (by omega) (by omega)), ifT (inB_nI (by omega) (by omega)), e40, ifT (inB_nI (by omega) (by omega)), nI_clamp (by omega), nI_clamp (by omega), nI_1]
      exact g1
    · by_cases e : i = k
      · subst e; rw [g3 _ (by omega), pk_us]
      · exact g2 i (by omega) h2
    · rw [g3 j (by omega), pk_un (by omega)]
theorem rule_ok {fu : Nat} (hfu : 1000 ≤ fu) {qq_ruleCount : Int32} {qq_walkState : Int32} {qq_pi : Nat → Nat} {rr_at : Int32} {rr_fault : Int32} {tt_length : Int32} {tt_ch : Nat → Int32} {gg_pieceCount : Int32} {gg_depth : Int32} {gg_ends : Int64} {gg_behind : Nat → Int64} {gg_readersOf : Nat → Int64} {gg_endsBefore : Nat → Int64} {gg_endsOfRows : Nat → Int64} {gg_rowCount : Nat → Int32} {bb_kindCount : Int32} {bb_stateCount : Int32} {bb_kindOf : Nat → Int32} {bb_finerKindOf : Nat → Int32} {bb_leaderOf : Nat → Int32} {bb_stateOfKind : Nat → Int32} {bb_setOfState : Nat → Int32} {bb_permissionsOf : Nat → Int32} {ss_count : Int32} {ss_found : Nat → Int64} {ss_leads : Nat → Int32} {ss_slots : Nat → Int32} {zz_pieceCount : Int32} {zz_ruleCount : Int32} {zz_columnCount : Int32} {zz_behind : Nat → Int64} {zz_readersOf : Nat → Int64} {zz_columnOf : Nat → Int32} {zz_readersOfColumn : Nat → Int64} {zz_endsOf : Nat → Int64} {zz_allowedBy : Nat → Int32} {zz_deniedBy : Nat → Int32} {ba_al : Nat → Int32} {ba_pe : Nat → Int32} {ba_pc : Nat → Int32} {ba_de : Nat → Int32} {ba_en : Nat → Int64} {ba_bh : Nat → Nat → Int64} {ba_rd : Nat → Nat → Int64} {ba_eb : Nat → Nat → Int64} {ba_eo : Nat → Nat → Int64} {ba_rc : Nat → Nat → Int32} {v_size : Int32} {v_rules : Int32} {v_items : Int32} {v_pieces : Int32} {v_first : Int64} {v_emptyOf : Int32} {v_classes : Int32} {v_sets : Int32} {v_states : Int32} {v_walker : Int32} {v_typed : Nat → Int32} {v_glob : Nat → Int32} {v_length : Nat → Int32} {v_allows : Nat → Int32} {v_permissions : Nat → Int32} {v_many : Nat → Int32} {v_sort : Nat → Int32} {v_piece : Nat → Int32} {v_onward : Nat → Int32} {v_open : Nat → Int32} {v_seen : Nat → Int32} {v_stack : Nat → Int32} {v_bytes : Nat → Int64} {v_star : Nat → Int32} {v_behind : Nat → Int64} {v_ends : Nat → Int32} {v_ruleOf : Nat → Int32} {v_classOf : Nat → Int32} {v_example : Nat → Int32} {v_set : Nat → Int64} {v_given : Nat → Int32} {v_kind : Nat → Int32} {v_finer : Nat → Int32} {v_leads : Nat → Int32} {v_stateOf : Nat → Int32} {v_setOf : Nat → Int32} (p1 p2 : Int32) (hT : InvT tt_length tt_ch v_size v_typed) (hR : InvR Gl qq_ruleCount qq_pi ba_al ba_pe ba_pc ba_en ba_bh ba_rd v_rules v_glob v_length v_allows v_permissions v_many) (hB : InvB bb_stateCount bb_kindOf bb_stateOfKind bb_setOfState bb_permissionsOf ss_count ss_leads zz_columnCount zz_columnOf qq_walkState v_states v_sets v_walker v_classOf v_kind v_leads v_stateOf v_setOf v_given) (hP : ∃ P, P ≤ 60 ∧ v_pieces = nI P) (hp1 : p1 = 0 ∨ p1 = 1) : ∃ (r_ : Int32) (x_qq_ruleCount : Int32) (x_rr_at : Int32) (x_rr_fault : Int32) (x_tt_length : Int32) (x_gg_pieceCount : Int32) (x_gg_depth : Int32) (x_gg_ends : Int64) (x_gg_behind : Nat → Int64) (x_gg_readersOf : Nat → Int64) (x_gg_endsBefore : Nat → Int64) (x_gg_endsOfRows : Nat → Int64) (x_gg_rowCount : Nat → Int32) (x_bb_stateCount : Int32) (x_ba_al : Nat → Int32) (x_ba_pe : Nat → Int32) (x_ba_pc : Nat → Int32) (x_ba_de : Nat → Int32) (x_ba_en : Nat → Int64) (x_ba_bh : Nat → Nat → Int64) (x_ba_rd : Nat → Nat → Int64) (y_v_size : Int32) (y_v_rules : Int32) (y_v_items : Int32) (y_v_pieces : Int32) (y_v_states : Int32) (y_v_glob : Nat → Int32) (y_v_length : Nat → Int32) (y_v_allows : Nat → Int32) (y_v_permissions : Nat → Int32) (y_v_many : Nat → Int32) (y_v_sort : Nat → Int32) (y_v_piece : Nat → Int32) (y_v_onward : Nat → Int32) (y_v_open : Nat → Int32) (y_v_bytes : Nat → Int64) (y_v_star : Nat → Int32), f_G_rule fu p1 p2 qq_ruleCount qq_pi tt_length tt_ch gg_behind gg_readersOf gg_endsBefore gg_endsOfRows gg_rowCount bb_stateCount ba_al ba_pe ba_pc ba_de ba_en ba_bh ba_rd = some (r_, x_qq_ruleCount, x_rr_at, x_rr_fault, x_tt_length, x_gg_pieceCount, x_gg_depth, x_gg_ends, x_gg_behind, x_gg_readersOf, x_gg_endsBefore, x_gg_endsOfRows, x_gg_rowCount, x_bb_stateCount, x_ba_al, x_ba_pe, x_ba_pc, x_ba_de, x_ba_en, x_ba_bh, x_ba_rd) ∧ f_M_rule fu p1 p2 v_size v_rules v_pieces v_states v_typed v_glob v_length v_allows v_permissions v_many v_sort v_piece v_onward v_open v_bytes v_star = some (r_, y_v_size, y_v_rules, y_v_items, y_v_pieces, y_v_states, y_v_glob, y_v_length, y_v_allows, y_v_permissions, y_v_many, y_v_sort, y_v_piece, y_v_onward, y_v_open, y_v_bytes, y_v_star) ∧ InvT x_tt_length tt_ch y_v_size v_typed ∧ InvR Gl x_qq_ruleCount qq_pi x_ba_al x_ba_pe x_ba_pc x_ba_en x_ba_bh x_ba_rd y_v_rules y_v_glob y_v_length y_v_allows y_v_permissions y_v_many ∧ InvB x_bb_stateCount bb_kindOf bb_stateOfKind bb_setOfState bb_permissionsOf ss_count ss_leads zz_columnCount zz_columnOf qq_walkState y_v_states v_sets v_walker v_classOf v_kind v_leads v_stateOf v_setOf v_given ∧ ∃ P, P ≤ 60 ∧ y_v_pieces = nI P := by
  obtain ⟨n, n1, rfl, rfl, n4⟩ := hT
  obtain ⟨P, hP1, rfl⟩ := hP
  have hTX : TX (tN v_typed) n tt_ch := ⟨n1, fun j hj => by
    obtain ⟨q1, q2⟩ := n4 j hj
    obtain ⟨o1, o2, o3⟩ := tN_ok q2
    exact ⟨by rw [q1]; exact o1, o2, o3⟩⟩
  have hTM : TXM (tN v_typed) n 0 40 v_typed := ⟨n1, by omega, by omega, fun j hj => by
    obtain ⟨q1, q2⟩ := n4 j hj
    obtain ⟨o1, o2, o3⟩ := tN_ok q2
    rw [Nat.zero_add]
    exact ⟨o1, o2, o3⟩⟩
  have hT0 : InvT 0 tt_ch 0 v_typed := ⟨0, by omega, rfl, rfl, fun j hj => absurd hj (Nat.not_lt_zero _)⟩
  obtain ⟨cF, cG⟩ := rdC_ok (fu := fu) hTX (by omega) gg_behind gg_readersOf gg_endsBefore gg_endsOfRows gg_rowCount
  obtain ⟨mF, mG⟩ := rdM_ok (fu := fu) (vB0 := v_bytes) hTM hP1 (by omega) v_sort v_piece v_onward v_open v_star
  have hRR := hR
  obtain ⟨R, cn, r1, r2, r3, r4, r5, r6, r7⟩ := hR
  subst r2 r3
  cases hpar : parse (tN v_typed) n with
  | inl j =>
    obtain ⟨y1, y2, pc, dp, en, bh, rd, eb, er, rc, e1, e2⟩ := cF j hpar
    obtain ⟨it, pcs, so, pi, on, op, vB, vS, e3⟩ := mF j hpar
    have e3' : f_M_read fu 40 0 (nI n) (nI P) v_sort v_piece v_onward v_open v_bytes v_star v_typed = some (-1 - nI j, it, pcs, so, pi, on, op, vB, vS) := e3
    have hneg : ¬ (0 : Int32) ≤ -1 - nI j := by
      have : ∀ j, j ≤ 40 → ¬ (0 : Int32) ≤ -1 - nI j := by decide +kernel
      exact this j (by omega)
    refine ⟨-1 - nI j, nI R, y1, y2, 0, pc, dp, en, bh, rd, eb, er, rc, bb_stateCount, ba_al, ba_pe, ba_pc, ba_de, ba_en, ba_bh, ba_rd, 0, nI R, it, nI P, v_states, v_glob, v_length, v_allows, v_permissions, v_many, so, pi, on, op, vB, vS, ?_, ?_, hT0, hRR, hB, ⟨P, hP1, rfl⟩⟩
    · unfold f_G_rule
      rw [e1, ob]
      dsimp only
      show (if nI j < 0 then _ else _) = _
      rw [ifF (nI_pos (by omega))]
    · unfold f_M_rule
      rw [e3', ob]
      dsimp only
      rw [ifF hneg]
  | inr stt =>
    obtain ⟨a, x, kd, sr, S, lr⟩ := stt
    obtain ⟨y1, pc, dp, en, bh, rd, eb, er, rc, e1, w1, w2, w3⟩ := cG a x kd sr S lr hpar
    obtain ⟨so, pi, on, op, vB, vS, e3, -, -⟩ := mG a x kd sr S lr hpar
    have e3' : f_M_read fu 40 0 (nI n) (nI P) v_sort v_piece v_onward v_open v_bytes v_star v_typed = some (0, nI (x + 1), nI (P + pn kd x), so, pi, on, op, vB, vS) := e3
    subst w2
    obtain ⟨v1, v2, v3, v4, -, -⟩ := w3
    have hx40 : x ≤ 40 := by have := w1.1; have := w1.2.1; omega
    have hpx := pn_le (kd := kd) x
    have hGl : Gl v_typed n (pn kd x) bh rd en := ⟨a, x, kd, sr, S, hpar, rfl, w1, v3, v4⟩
    have hsub : nI (P + pn kd x) - nI P = nI (pn kd x) := by
      rw [pk_sub (by omega), Nat.add_sub_cancel_left]
    have hsumC : f_G_pieceSum fu (nI R) qq_pi ba_pc = some (nI (sumn cn R)) := psC r1 r4 (fun r hr => by
      obtain ⟨t, n', -, -, -, -, -, -, -, q1, q2, -⟩ := r6 r hr
      exact q1) (fun l2_4 l1_4 => some l1_4) R 0 fu (by omega) (by omega)
    have hsumM : f_M_allPieces fu (nI R) v_many = some (nI (sumn cn R)) := psM r1 (fun r hr => by
      obtain ⟨t, n', -, -, -, -, -, -, -, q1, q2, -⟩ := r6 r hr
      exact q2) (fun l2_4 l1_4 => some l1_4) R 0 fu (by omega) (by omega)
    have hG : ∀ (rs : Option Nat), f_G_slotAt (nI R) qq_pi = some rs → f_G_rule fu p1 p2 (nI R) qq_pi (nI n) tt_ch gg_behind gg_readersOf gg_endsBefore gg_endsOfRows gg_rowCount bb_stateCount ba_al ba_pe ba_pc ba_de ba_en ba_bh ba_rd = ((if p2 < (1 : Int32) then some ((-1000 : Int32), (nI R), y1, (-1 : Int32), (0 : Int32), pc, dp, en, bh, rd, eb, er, rc, bb_stateCount, ba_al, ba_pe, ba_pc, ba_de, ba_en, ba_bh, ba_rd) else (if (7 : Int32) < p2 then some ((-1000 : Int32), (nI R), y1, (-1 : Int32), (0 : Int32), pc, dp, en, bh, rd, eb, er, rc, bb_stateCount, ba_al, ba_pe, ba_pc, ba_de, ba_en, ba_bh, ba_rd) else (Option.elim rs (some ((-1000 : Int32), (nI R), y1, (-1 : Int32), (0 : Int32), pc, dp, en, bh, rd, eb, er, rc, bb_stateCount, ba_al, ba_pe, ba_pc, ba_de, ba_en, ba_bh, ba_rd)) (fun x20 => (Option.bind (f_G_pieceSum fu (nI R) qq_pi ba_pc) fun r21 => (if (r21 + pc) ≤ (60 : Int32) then (if x20 < 6 then (Option.bind (f_Rule_fill p1 p2 (ba_bh x20) (ba_rd x20) pc dp en bh rd) fun (yuu_allows_25, yuu_permissions_26, ygg_pieceCount_27, ygg_depth_28, ygg_ends_29, ygg_behind_30, ygg_readersOf_31) => (Option.bind (f_Table_clear) fun ybb_stateCount_33 => some ((((nI R) + (1 : Int32)) - (1 : Int32)), ((nI R) + (1 : Int32)), y1, (-1 : Int32), (0 : Int32), pc, dp, en, bh, rd, eb, er, rc, ybb_stateCount_33, (va_up ba_al x20 yuu_allows_25), (va_up ba_pe x20 yuu_permissions_26), (va_up ba_pc x20 ygg_pieceCount_27), (va_up ba_de x20 ygg_depth_28), (va_up ba_en x20 ygg_ends_29), (va_up ba_bh x20 ygg_behind_30), (va_up ba_rd x20 ygg_readersOf_31)))) else none) else some ((-1000 : Int32), (nI R), y1, (-1 : Int32), (0 : Int32), pc, dp, en, bh, rd, eb, er, rc, bb_stateCount, ba_al, ba_pe, ba_pc, ba_de, ba_en, ba_bh, ba_rd)))))))) := fun rs hrs => by
      unfold f_G_rule
      rw [e1, ob]
      dsimp only
      show Option.bind (f_G_slotAt (nI R) qq_pi) _ = _
      rw [hrs, ob]
    have hslot : R < 6 → f_G_slotAt (nI R) qq_pi = some (some (qq_pi R)) := fun h6 => by
      have q6 : ¬ (6 : Int32) ≤ nI R := nI_ge (b := 6) h6 (by decide)
      unfold f_G_slotAt
      rw [ifF (nI_pos (by omega)), ifF q6, ifT (inB_nI h6 (by omega)), nI_clamp (by omega)]
    have hslot6 : ¬ R < 6 → f_G_slotAt (nI R) qq_pi = some none := fun h6 => by
      have : R = 6 := by omega
      subst this
      rfl
    have hM : f_M_rule fu p1 p2 (nI n) (nI R) (nI P) v_states v_typed v_glob v_length v_allows v_permissions v_many v_sort v_piece v_onward v_open v_bytes v_star = ((Option.bind (some (if p2 < 1 then (0 : Int32) else if 7 < p2 then 0 else 1)) fun r12 => (if r12 = 0 then some ((-1000 : Int32), (0 : Int32), (nI R), (nI (x + 1)), (nI P), v_states, v_glob, v_length, v_allows, v_permissions, v_many, (so), (pi), (on), (op), (vB), (vS)) else (if (6 : Int32) ≤ (nI R) then some ((-1000 : Int32), (0 : Int32), (nI R), (nI (x + 1)), (nI P), v_states, v_glob, v_length, v_allows, v_permissions, v_many, (so), (pi), (on), (op), (vB), (vS)) else (Option.bind (f_M_allPieces fu (nI R) v_many) fun r16 => (if (r16 + ((nI (P + pn kd x)) - (nI P))) ≤ (60 : Int32) then (f_M_rule_L90 (nI n) (nI R) v_typed (fun l7_90 v_glob_90 => (if inB (nI R) 6 = true then (if inB (nI R) 6 = true then (if inB (nI R) 6 = true then (if inB (nI R) 6 = true then some ((((nI R) + (1 : Int32)) - (1 : Int32)), (0 : Int32), ((nI R) + (1 : Int32)), (nI (x + 1)), (nI P), (0 : Int32), v_glob_90, (upd v_length (nI R).toNatClampNeg (nI n)), (upd v_allows (nI R).toNatClampNeg (vp_nar .boolean p1)), (upd v_permissions (nI R).toNatClampNeg p2), (upd v_many (nI R).toNatClampNeg ((nI (P + pn kd x)) - (nI P))), (so), (pi), (on), (op), (vB), (vS)) else none) else none) else none) else none)) fu (0 : Int32) v_glob) else some ((-1000 : Int32), (0 : Int32), (nI R), (nI (x + 1)), (nI P), v_states, v_glob, v_length, v_allows, v_permissions, v_many, (so), (pi), (on), (op), (vB), (vS)))))))) := by
      unfold f_M_rule
      rw [e3', ob]
      dsimp only
      rw [ifT (by decide), in_eq]
    -- refused
    have refuse : f_G_rule fu p1 p2 (nI R) qq_pi (nI n) tt_ch gg_behind gg_readersOf gg_endsBefore gg_endsOfRows gg_rowCount bb_stateCount ba_al ba_pe ba_pc ba_de ba_en ba_bh ba_rd = some (-1000, nI R, y1, -1, 0, pc, dp, en, bh, rd, eb, er, rc, bb_stateCount, ba_al, ba_pe, ba_pc, ba_de, ba_en, ba_bh, ba_rd) → f_M_rule fu p1 p2 (nI n) (nI R) (nI P) v_states v_typed v_glob v_length v_allows v_permissions v_many v_sort v_piece v_onward v_open v_bytes v_star = some (-1000, 0, nI R, nI (x + 1), nI P, v_states, v_glob, v_length, v_allows, v_permissions, v_many, so, pi, on, op, vB, vS) → ∃ (r_ : Int32) (x_qq_ruleCount : Int32) (x_rr_at : Int32) (x_rr_fault : Int32) (x_tt_length : Int32) (x_gg_pieceCount : Int32) (x_gg_depth : Int32) (x_gg_ends : Int64) (x_gg_behind : Nat → Int64) (x_gg_readersOf : Nat → Int64) (x_gg_endsBefore : Nat → Int64) (x_gg_endsOfRows : Nat → Int64) (x_gg_rowCount : Nat → Int32) (x_bb_stateCount : Int32) (x_ba_al : Nat → Int32) (x_ba_pe : Nat → Int32) (x_ba_pc : Nat → Int32) (x_ba_de : Nat → Int32) (x_ba_en : Nat → Int64) (x_ba_bh : Nat → Nat → Int64) (x_ba_rd : Nat → Nat → Int64) (y_v_size : Int32) (y_v_rules : Int32) (y_v_items : Int32) (y_v_pieces : Int32) (y_v_states : Int32) (y_v_glob : Nat → Int32) (y_v_length : Nat → Int32) (y_v_allows : Nat → Int32) (y_v_permissions : Nat → Int32) (y_v_many : Nat → Int32) (y_v_sort : Nat → Int32) (y_v_piece : Nat → Int32) (y_v_onward : Nat → Int32) (y_v_open : Nat → Int32) (y_v_bytes : Nat → Int64) (y_v_star : Nat → Int32), f_G_rule fu p1 p2 (nI R) qq_pi (nI n) tt_ch gg_behind gg_readersOf gg_endsBefore gg_endsOfRows gg_rowCount bb_stateCount ba_al ba_pe ba_pc ba_de ba_en ba_bh ba_rd = some (r_, x_qq_ruleCount, x_rr_at, x_rr_fault, x_tt_length, x_gg_pieceCount, x_gg_depth, x_gg_ends, x_gg_behind, x_gg_readersOf, x_gg_endsBefore, x_gg_endsOfRows, x_gg_rowCount, x_bb_stateCount, x_ba_al, x_ba_pe, x_ba_pc, x_ba_de, x_ba_en, x_ba_bh, x_ba_rd) ∧ f_M_rule fu p1 p2 (nI n) (nI R) (nI P) v_states v_typed v_glob v_length v_allows v_permissions v_many v_sort v_piece v_onward v_open v_bytes v_star = some (r_, y_v_size, y_v_rules, y_v_items, y_v_pieces, y_v_states, y_v_glob, y_v_length, y_v_allows, y_v_permissions, y_v_many, y_v_sort, y_v_piece, y_v_onward, y_v_open, y_v_bytes, y_v_star) ∧ InvT x_tt_length tt_ch y_v_size v_typed ∧ InvR Gl x_qq_ruleCount qq_pi x_ba_al x_ba_pe x_ba_pc x_ba_en x_ba_bh x_ba_rd y_v_rules y_v_glob y_v_length y_v_allows y_v_permissions y_v_many ∧ InvB x_bb_stateCount bb_kindOf bb_stateOfKind bb_setOfState bb_permissionsOf ss_count ss_leads zz_columnCount zz_columnOf qq_walkState y_v_states v_sets v_walker v_classOf v_kind v_leads v_stateOf v_setOf v_given ∧ ∃ P, P ≤ 60 ∧ y_v_pieces = nI P := fun g1 g2 => ⟨-1000, nI R, y1, -1, 0, pc, dp, en, bh, rd, eb, er, rc, bb_stateCount, ba_al, ba_pe, ba_pc, ba_de, ba_en, ba_bh, ba_rd, 0, nI R, nI (x + 1), nI P, v_states, v_glob, v_length, v_allows, v_permissions, v_many, so, pi, on, op, vB, vS, g1, g2, hT0, hRR, hB, ⟨P, hP1, rfl⟩⟩
    have hrs : ∃ rs, f_G_slotAt (nI R) qq_pi = some rs := by
      by_cases h6 : R < 6
      · exact ⟨_, hslot h6⟩
      · exact ⟨_, hslot6 h6⟩
    by_cases c1 : p2 < 1
    · obtain ⟨rs, hrs⟩ := hrs
      refine refuse ?_ ?_
      · rw [hG rs hrs, ifT c1]
      · rw [hM, ifT c1, ob, ifT rfl]
    · by_cases c2 : 7 < p2
      · obtain ⟨rs, hrs⟩ := hrs
        refine refuse ?_ ?_
        · rw [hG rs hrs, ifF c1, ifT c2]
        · rw [hM, ifF c1, ifT c2, ob, ifT rfl]
      · by_cases h6 : R < 6
        · have q6 : ¬ (6 : Int32) ≤ nI R := nI_ge (b := 6) h6 (by decide)
          have hadd : nI (sumn cn R) + nI (pn kd x) = nI (sumn cn R + pn kd x) := nI_add _ _
          by_cases c3 : sumn cn R + pn kd x ≤ 60
          · have q60 : nI (sumn cn R + pn kd x) ≤ (60 : Int32) := nI_le (b := 60) c3 (by decide)
            have hr1 : nI (R + 1) - 1 = nI R := pk_sub (b := 1) (by omega)
            obtain ⟨gl', l1, l2, l3⟩ := cpM (vT := v_typed) n1 h6 (fun l7_90 v_glob_90 => (if inB (nI R) 6 = true then (if inB (nI R) 6 = true then (if inB (nI R) 6 = true then (if inB (nI R) 6 = true then some ((((nI R) + (1 : Int32)) - (1 : Int32)), (0 : Int32), ((nI R) + (1 : Int32)), (nI (x + 1)), (nI P), (0 : Int32), v_glob_90, (upd v_length (nI R).toNatClampNeg (nI n)), (upd v_allows (nI R).toNatClampNeg (vp_nar .boolean p1)), (upd v_permissions (nI R).toNatClampNeg p2), (upd v_many (nI R).toNatClampNeg ((nI (P + pn kd x)) - (nI P))), (so), (pi), (on), (op), (vB), (vS)) else none) else none) else none) else none)) n 0 fu v_glob (by omega) (by omega)
            have hin6 : inB (nI R) 6 = true := inB_nI h6 (by omega)
            obtain ⟨pq, hpq, ep2⟩ := nI_of2 (x := p2) (M := 7) (n := 7) (by decide) (fun q => c1 (by
              have e1' : (1 : Int32).toInt = 1 := by decide
              have e0 : (0 : Int32).toInt = 0 := by decide
              have := Int32.lt_iff_toInt_lt.mp q
              rw [Int32.lt_iff_toInt_lt]
              omega)) (Int32.not_lt.mp c2)
            have hpq1 : 1 ≤ pq := Nat.pos_of_ne_zero fun z => c1 (by rw [ep2, z]; decide)
            have hpi6 := r4 R h6
            have hfill : f_Rule_fill p1 p2 (ba_bh (qq_pi R)) (ba_rd (qq_pi R)) pc dp en bh rd = some (p1, p2, pc, dp, en, va_cpy bh (ba_bh (qq_pi R)) 0 0 41, va_cpy rd (ba_rd (qq_pi R)) 0 0 95) := by
              unfold f_Rule_fill f_Glob_copy
              rw [ifT (by decide), ifT (by decide), ob]
              dsimp only
              rw [ifT hp1]
              rfl
            refine ⟨nI R, nI (R + 1), y1, -1, 0, pc, dp, en, bh, rd, eb, er, rc, 0, va_up ba_al (qq_pi R) p1, va_up ba_pe (qq_pi R) p2, va_up ba_pc (qq_pi R) pc, va_up ba_de (qq_pi R) dp, va_up ba_en (qq_pi R) en, va_up ba_bh (qq_pi R) (va_cpy bh (ba_bh (qq_pi R)) 0 0 41), va_up ba_rd (qq_pi R) (va_cpy rd (ba_rd (qq_pi R)) 0 0 95), 0, nI (R + 1), nI (x + 1), nI P, 0, gl', upd v_length R (nI n), upd v_allows R p1, upd v_permissions R p2, upd v_many R (nI (pn kd x)), so, pi, on, op, vB, vS, ?_, ?_, hT0, ?_, Or.inl ⟨rfl, rfl⟩, ⟨P, hP1, rfl⟩⟩
            · rw [hG _ (hslot h6), ifF c1, ifF c2]
              show Option.bind (f_G_pieceSum fu (nI R) qq_pi ba_pc) _ = _
              rw [hsumC, ob, v1, hadd, ifT q60, ifT hpi6, ← v1, hfill, ob]
              dsimp only
              show some (nI R + 1 - 1, nI R + 1, _) = _
              rw [nI_1, hr1]
            · rw [hM, ifF c1, ifF c2, ob, ifF (by decide), ifF q6, hsumM, ob, hsub, hadd, ifT q60]
              rw [hsub] at l1
              refine Eq.trans l1 ?_
              show (if inB (nI R) 6 = true then _ else _) = _
              rw [ifT hin6, ifT hin6, ifT hin6, ifT hin6, nI_clamp (by omega), nar01 hp1, nI_1, hr1]
            · refine ⟨R + 1, va_up cn R (pn kd x), by omega, rfl, rfl, r4, r5, fun r hr => ?_, ?_⟩
              · by_cases e : r = R
                · subst e
                  rw [up_s, up_s, up_s, up_s, up_s, up_s, up_s, pk_us, pk_us, pk_us, pk_us]
                  refine ⟨v_typed, n, n1, rfl, fun i hi => ⟨l2 i (Nat.zero_le _) hi, (n4 i hi).2⟩, rfl, hp1, rfl, ⟨pq, hpq1, hpq, ep2⟩, v1, rfl, ⟨a, x, kd, sr, S, hpar, rfl, w1, ⟨v3.1, fun s hs i => ?_⟩, fun s hs i => ?_⟩⟩
                  · rw [pk_cpy_in (by omega) (by omega), Nat.zero_add, Nat.sub_zero]
                    exact v3.2 s hs i
                  · rw [pk_cpy_in (by omega) (by omega), Nat.zero_add, Nat.sub_zero]
                    exact v4 s hs i
                · have hne : qq_pi r ≠ qq_pi R := fun z => e (r5 r R (by omega) h6 z)
                  rw [up_n hne, up_n hne, up_n hne, up_n hne, up_n hne, up_n hne, up_n e, pk_un e, pk_un e, pk_un e, pk_un e]
                  obtain ⟨t, n', t1, t2, t3, t4⟩ := r6 r (by omega)
                  refine ⟨t, n', t1, t2, fun i hi => ?_, t4⟩
                  rw [l3 _ (by omega)]
                  exact t3 i hi
              · rw [sumn, up_s, sumn_cg (cn' := cn) R (fun r hr => up_n (by omega))]
                exact c3
          · have q60 : ¬ nI (sumn cn R + pn kd x) ≤ (60 : Int32) := nI_ge (a := 60) (by omega) (by omega)
            refine refuse ?_ ?_
            · rw [hG _ (hslot h6), ifF c1, ifF c2]
              show Option.bind (f_G_pieceSum fu (nI R) qq_pi ba_pc) _ = _
              rw [hsumC, ob, v1, hadd, ifF q60]
            · rw [hM, ifF c1, ifF c2, ob, ifF (by decide), ifF q6, hsumM, ob, hsub, hadd, ifF q60]
        · have : R = 6 := by omega
          subst this
          refine refuse ?_ ?_
          · rw [hG _ (hslot6 h6), ifF c1, ifF c2]
            rfl
          · rw [hM, ifF c1, ifF c2, ob, ifF (by decide)]
            exact ifT (by decide)
end RUL2
