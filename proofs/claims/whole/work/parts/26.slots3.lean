theorem d_G_drop_0 : decode b_G_drop 0 = .ok (.aload_n 0, 1) := by decide +kernel
theorem d_G_drop_1 : decode b_G_drop 1 = .ok (.iload_n 1, 1) := by decide +kernel
theorem d_G_drop_2 : decode b_G_drop 2 = .ok (.invokevirtual 87, 3) := by decide +kernel
theorem d_G_drop_5 : decode b_G_drop 5 = .ok (.astore_n 2, 1) := by decide +kernel
theorem d_G_drop_6 : decode b_G_drop 6 = .ok (.aload_n 2, 1) := by decide +kernel
theorem d_G_drop_7 : decode b_G_drop 7 = .ok (.ifnonnull 5, 3) := by decide +kernel
theorem d_G_drop_10 : decode b_G_drop 10 = .ok (.iconst 0, 1) := by decide +kernel
theorem d_G_drop_11 : decode b_G_drop 11 = .ok (.ireturn, 1) := by decide +kernel
theorem d_G_drop_12 : decode b_G_drop 12 = .ok (.iload_n 1, 1) := by decide +kernel
theorem d_G_drop_13 : decode b_G_drop 13 = .ok (.istore_n 3, 1) := by decide +kernel
theorem d_G_drop_14 : decode b_G_drop 14 = .ok (.iload_n 3, 1) := by decide +kernel
theorem d_G_drop_15 : decode b_G_drop 15 = .ok (.iconst 1, 1) := by decide +kernel
theorem d_G_drop_16 : decode b_G_drop 16 = .ok (.iadd, 1) := by decide +kernel
theorem d_G_drop_17 : decode b_G_drop 17 = .ok (.aload_n 0, 1) := by decide +kernel
theorem d_G_drop_18 : decode b_G_drop 18 = .ok (.getfield 48, 3) := by decide +kernel
theorem d_G_drop_21 : decode b_G_drop 21 = .ok (.if_icmp .ge 43, 3) := by decide +kernel
theorem d_G_drop_24 : decode b_G_drop 24 = .ok (.iload_n 3, 1) := by decide +kernel
theorem d_G_drop_25 : decode b_G_drop 25 = .ok (.iconst 1, 1) := by decide +kernel
theorem d_G_drop_26 : decode b_G_drop 26 = .ok (.iadd, 1) := by decide +kernel
theorem d_G_drop_27 : decode b_G_drop 27 = .ok (.aload_n 0, 1) := by decide +kernel
theorem d_G_drop_28 : decode b_G_drop 28 = .ok (.getfield 27, 3) := by decide +kernel
theorem d_G_drop_31 : decode b_G_drop 31 = .ok (.arraylength, 1) := by decide +kernel
theorem d_G_drop_32 : decode b_G_drop 32 = .ok (.if_icmp .ge 32, 3) := by decide +kernel
theorem d_G_drop_35 : decode b_G_drop 35 = .ok (.aload_n 0, 1) := by decide +kernel
theorem d_G_drop_36 : decode b_G_drop 36 = .ok (.getfield 27, 3) := by decide +kernel
theorem d_G_drop_39 : decode b_G_drop 39 = .ok (.iload_n 3, 1) := by decide +kernel
theorem d_G_drop_40 : decode b_G_drop 40 = .ok (.aload_n 0, 1) := by decide +kernel
theorem d_G_drop_41 : decode b_G_drop 41 = .ok (.getfield 27, 3) := by decide +kernel
theorem d_G_drop_44 : decode b_G_drop 44 = .ok (.iload_n 3, 1) := by decide +kernel
theorem d_G_drop_45 : decode b_G_drop 45 = .ok (.iconst 1, 1) := by decide +kernel
theorem d_G_drop_46 : decode b_G_drop 46 = .ok (.iadd, 1) := by decide +kernel
theorem d_G_drop_47 : decode b_G_drop 47 = .ok (.aaload, 1) := by decide +kernel
theorem d_G_drop_48 : decode b_G_drop 48 = .ok (.aastore, 1) := by decide +kernel
theorem d_G_drop_49 : decode b_G_drop 49 = .ok (.aload_n 0, 1) := by decide +kernel
theorem d_G_drop_50 : decode b_G_drop 50 = .ok (.getfield 27, 3) := by decide +kernel
theorem d_G_drop_53 : decode b_G_drop 53 = .ok (.iload_n 3, 1) := by decide +kernel
theorem d_G_drop_54 : decode b_G_drop 54 = .ok (.iconst 1, 1) := by decide +kernel
theorem d_G_drop_55 : decode b_G_drop 55 = .ok (.iadd, 1) := by decide +kernel
theorem d_G_drop_56 : decode b_G_drop 56 = .ok (.aload_n 2, 1) := by decide +kernel
theorem d_G_drop_57 : decode b_G_drop 57 = .ok (.aastore, 1) := by decide +kernel
theorem d_G_drop_58 : decode b_G_drop 58 = .ok (.iinc 3 1, 3) := by decide +kernel
theorem d_G_drop_61 : decode b_G_drop 61 = .ok (.goto (-47), 3) := by decide +kernel
theorem d_G_drop_64 : decode b_G_drop 64 = .ok (.aload_n 0, 1) := by decide +kernel
theorem d_G_drop_65 : decode b_G_drop 65 = .ok (.dup, 1) := by decide +kernel
theorem d_G_drop_66 : decode b_G_drop 66 = .ok (.getfield 48, 3) := by decide +kernel
theorem d_G_drop_69 : decode b_G_drop 69 = .ok (.iconst 1, 1) := by decide +kernel
theorem d_G_drop_70 : decode b_G_drop 70 = .ok (.isub, 1) := by decide +kernel
theorem d_G_drop_71 : decode b_G_drop 71 = .ok (.putfield 48, 3) := by decide +kernel
theorem d_G_drop_74 : decode b_G_drop 74 = .ok (.aload_n 0, 1) := by decide +kernel
theorem d_G_drop_75 : decode b_G_drop 75 = .ok (.getfield 44, 3) := by decide +kernel
theorem d_G_drop_78 : decode b_G_drop 78 = .ok (.invokevirtual 86, 3) := by decide +kernel
theorem d_G_drop_81 : decode b_G_drop 81 = .ok (.iconst 1, 1) := by decide +kernel
theorem d_G_drop_82 : decode b_G_drop 82 = .ok (.ireturn, 1) := by decide +kernel
abbrev wp_G_drop {cI cJ cC cZ cR : ClassId} (a_q a_t a_r a_qs a_z a_b a_s a_bk a_bf a_bl a_bs a_bt a_bp : Nat) (au ag ab ar ae ao ac : Nat → Nat) (qq_ruleCount : Int32) (qq_walkState : Int32) (qq_pi : Nat → Nat) (bb_kindCount : Int32) (bb_stateCount : Int32) : va_W := [(a_q, .inr (7, [.ref a_t, .ref a_r, .ref a_qs, .ref a_z, .ref a_b, .int qq_ruleCount, .int qq_walkState])), (a_qs, .inl (cR, 6, .inr (.inr (.inr (.inr (fun j => some (au (qq_pi j)))))))), (a_b, .inr (6, [.ref a_z, .ref a_s, .ref a_bk, .ref a_bf, .ref a_bl, .ref a_bs, .ref a_bt, .ref a_bp, .int bb_kindCount, .int bb_stateCount]))]
abbrev w_G_drop {cI cJ cC cZ cR : ClassId} (a_q a_t a_r a_qs a_z a_b a_s a_bk a_bf a_bl a_bs a_bt a_bp : Nat) (au ag ab ar ae ao ac : Nat → Nat) (qq_ruleCount : Int32) (qq_walkState : Int32) (qq_pi : Nat → Nat) (bb_kindCount : Int32) (bb_stateCount : Int32) (ba_al : Nat → Int32) (ba_pe : Nat → Int32) (ba_pc : Nat → Int32) (ba_de : Nat → Int32) (ba_en : Nat → Int64) (ba_bh : Nat → Nat → Int64) (ba_rd : Nat → Nat → Int64) (ba_eb : Nat → Nat → Int64) (ba_eo : Nat → Nat → Int64) (ba_rc : Nat → Nat → Int32) : va_W := wp_G_drop (cI := cI) (cJ := cJ) (cC := cC) (cZ := cZ) (cR := cR) a_q a_t a_r a_qs a_z a_b a_s a_bk a_bf a_bl a_bs a_bt a_bp au ag ab ar ae ao ac qq_ruleCount qq_walkState qq_pi bb_kindCount bb_stateCount ++ blks (cI := cI) (cJ := cJ) au ag ab ar ae ao ac ba_al ba_pe ba_pc ba_de ba_en ba_bh ba_rd ba_eb ba_eo ba_rc
def f_G_drop_L14 (qq_ruleCount : Int32) (x3 : Nat) (kk14_0 : Int32 → (Nat → Nat) → Option (Int32 × Int32 × (Nat → Nat) × Int32)) : Nat → Int32 → (Nat → Nat) → Option (Int32 × Int32 × (Nat → Nat) × Int32)
  | 0, _, _ => none
  | n_14 + 1, l3_14, qq_pi_14 => (if qq_ruleCount ≤ (l3_14 + (1 : Int32)) then (kk14_0 l3_14 qq_pi_14) else (if (6 : Int32) ≤ (l3_14 + (1 : Int32)) then (kk14_0 l3_14 qq_pi_14) else (if inB (l3_14 + (1 : Int32)) 6 = true then (if inB l3_14 6 = true then (if (qq_pi_14 (l3_14 + (1 : Int32)).toNatClampNeg) < 6 then (if inB (l3_14 + (1 : Int32)) 6 = true then (if x3 < 6 then (f_G_drop_L14 qq_ruleCount x3 kk14_0 n_14 (l3_14 + 1) (va_up (va_up qq_pi_14 l3_14.toNatClampNeg (qq_pi_14 (l3_14 + (1 : Int32)).toNatClampNeg)) (l3_14 + (1 : Int32)).toNatClampNeg x3)) else none) else none) else none) else none) else none)))
theorem f_G_drop_L14_s (qq_ruleCount : Int32) (x3 : Nat) (kk14_0 : Int32 → (Nat → Nat) → Option (Int32 × Int32 × (Nat → Nat) × Int32)) (n_14 : Nat) (l3_14 : Int32) (qq_pi_14 : Nat → Nat) : f_G_drop_L14 qq_ruleCount x3 kk14_0 (n_14 + 1) l3_14 qq_pi_14 = (if qq_ruleCount ≤ (l3_14 + (1 : Int32)) then (kk14_0 l3_14 qq_pi_14) else (if (6 : Int32) ≤ (l3_14 + (1 : Int32)) then (kk14_0 l3_14 qq_pi_14) else (if inB (l3_14 + (1 : Int32)) 6 = true then (if inB l3_14 6 = true then (if (qq_pi_14 (l3_14 + (1 : Int32)).toNatClampNeg) < 6 then (if inB (l3_14 + (1 : Int32)) 6 = true then (if x3 < 6 then (f_G_drop_L14 qq_ruleCount x3 kk14_0 n_14 (l3_14 + 1) (va_up (va_up qq_pi_14 l3_14.toNatClampNeg (qq_pi_14 (l3_14 + (1 : Int32)).toNatClampNeg)) (l3_14 + (1 : Int32)).toNatClampNeg x3)) else none) else none) else none) else none) else none))) := rfl
def f_G_drop (fu : Nat) (p1 : Int32) (qq_ruleCount : Int32) (qq_pi : Nat → Nat) (bb_stateCount : Int32) : Option (Int32 × Int32 × (Nat → Nat) × Int32) := (Option.bind (f_G_ruleAt p1 qq_ruleCount qq_pi) fun r1 => (Option.elim r1 ((if ((0 : Int32) = 0 ∨ (0 : Int32) = 1) then some ((0 : Int32), qq_ruleCount, qq_pi, bb_stateCount) else none)) (fun x3 => (f_G_drop_L14 qq_ruleCount x3 (fun l3_14 qq_pi_14 => (Option.bind (f_Table_clear) fun ybb_stateCount_12 => (if ((1 : Int32) = 0 ∨ (1 : Int32) = 1) then some ((1 : Int32), (qq_ruleCount - (1 : Int32)), qq_pi_14, ybb_stateCount_12) else none))) fu p1 qq_pi))))
set_option maxRecDepth 100000 in
set_option maxHeartbeats 4000000 in
theorem c_G_drop {l : Launch} {D : va_G} {cI cJ cC cZ cR : ClassId} (fu : Nat) (a_q a_t a_r a_qs a_z a_b a_s a_bk a_bf a_bl a_bs a_bt a_bp : Nat) (au ag ab ar ae ao ac : Nat → Nat)  (qq_ruleCount : Int32) (qq_walkState : Int32) (qq_pi : Nat → Nat) (bb_kindCount : Int32) (bb_stateCount : Int32) (ba_al : Nat → Int32) (ba_pe : Nat → Int32) (ba_pc : Nat → Int32) (ba_de : Nat → Int32) (ba_en : Nat → Int64) (ba_bh : Nat → Nat → Int64) (ba_rd : Nat → Nat → Int64) (ba_eb : Nat → Nat → Int64) (ba_eo : Nat → Nat → Int64) (ba_rc : Nat → Nat → Int32) (p1 : Int32) (o_r : Int32) (o_qq_ruleCount : Int32) (o_qq_pi : Nat → Nat) (o_bb_stateCount : Int32) (h : f_G_drop fu p1 qq_ruleCount qq_pi bb_stateCount = some (o_r, o_qq_ruleCount, o_qq_pi, o_bb_stateCount)) : GM l D (tysL cI cJ cC cZ cR) y_G_drop b_G_drop 4 (some (.boolean)) { frames := 2, cells := 0, slots := 0, locals := 42 } [.ref a_q, .int p1] (w_G_drop (cI := cI) (cJ := cJ) (cC := cC) (cZ := cZ) (cR := cR) a_q a_t a_r a_qs a_z a_b a_s a_bk a_bf a_bl a_bs a_bt a_bp au ag ab ar ae ao ac qq_ruleCount qq_walkState qq_pi bb_kindCount bb_stateCount ba_al ba_pe ba_pc ba_de ba_en ba_bh ba_rd ba_eb ba_eo ba_rc) (fun (o : Option Value) (w : va_W) => o = some (.int o_r) ∧ w = w_G_drop (cI := cI) (cJ := cJ) (cC := cC) (cZ := cZ) (cR := cR) a_q a_t a_r a_qs a_z a_b a_s a_bk a_bf a_bl a_bs a_bt a_bp au ag ab ar ae ao ac o_qq_ruleCount qq_walkState o_qq_pi bb_kindCount o_bb_stateCount ba_al ba_pe ba_pc ba_de ba_en ba_bh ba_rd ba_eb ba_eo ba_rc) := by
  refine GM.of (by decide) (Nat.le_of_ble_eq_true rfl) (lv := [(0, .ref a_q), (1, .int p1)]) rfl ?_
  intro X hX C
  subst hX
  refine k_aload_n C d_G_drop_0 rfl 0 rfl rfl ?_
  refine k_iload_n C d_G_drop_1 rfl 1 rfl rfl ?_
  obtain ⟨r1, hc2, h⟩ := bd h
  refine k_callVQd (pre := wp_G_drop (cI := cI) (cJ := cJ) (cC := cC) (cZ := cZ) (cR := cR) a_q a_t a_r a_qs a_z a_b a_s a_bk a_bf a_bl a_bs a_bt a_bp au ag ab ar ae ao ac qq_ruleCount qq_walkState qq_pi bb_kindCount bb_stateCount) (suf := blks (cI := cI) (cJ := cJ) au ag ab ar ae ao ac ba_al ba_pe ba_pc ba_de ba_en ba_bh ba_rd ba_eb ba_eo ba_rc) (wn := wp_G_drop (cI := cI) (cJ := cJ) (cC := cC) (cZ := cZ) (cR := cR) a_q a_t a_r a_qs a_z a_b a_s a_bk a_bf a_bl a_bs a_bt a_bp au ag ab ar ae ao ac qq_ruleCount qq_walkState qq_pi bb_kindCount bb_stateCount) (As := [.int p1]) (st := []) (st' := [va_rf (Option.map au r1)]) C d_G_drop_2 (c_G_ruleAt fu a_q a_t a_r a_qs a_z a_b au ag ab ar ae ao ac qq_ruleCount qq_walkState qq_pi p1 r1 hc2) co_G_ruleAt cov_G_ruleAt mw170 0 rfl rfl (by decide) (by decide) (Nat.le_of_ble_eq_true rfl) rfl [0, 1] [2] [1, 2, 0] rfl (by decide +kernel) rfl (by decide +kernel) (by decide +kernel) rfl (by decide +kernel) rfl rfl ?_
  refine k_astore_nV (lv' := [(2, va_rf (Option.map au r1)), (0, .ref a_q), (1, .int p1)]) C d_G_drop_5 rfl (va_rf_or _) (by decide) rfl rfl ?_
  refine k_aload_nV C d_G_drop_6 rfl (va_rf_or _) 0 rfl rfl ?_
  cases r1 with
  | none =>
    replace h := oe_n h
    refine k_ifnonnullN C d_G_drop_7 rfl ?_
    refine k_iconst C d_G_drop_10 (v := (0 : Int32)) (by decide) rfl ?_
    have g4 := gd1 h
    replace h := gd2 h
    exact k_zret C d_G_drop_11 (nz_bool g4) (tr1 h (fun t => (fun (o : Option Value) (w : va_W) => o = some (.int (t.1)) ∧ w = w_G_drop (cI := cI) (cJ := cJ) (cC := cC) (cZ := cZ) (cR := cR) a_q a_t a_r a_qs a_z a_b a_s a_bk a_bf a_bl a_bs a_bt a_bp au ag ab ar ae ao ac (t.2.1) qq_walkState (t.2.2.1) bb_kindCount (t.2.2.2) ba_al ba_pe ba_pc ba_de ba_en ba_bh ba_rd ba_eb ba_eo ba_rc) (some (Value.int (0 : Int32))) (w_G_drop (cI := cI) (cJ := cJ) (cC := cC) (cZ := cZ) (cR := cR) a_q a_t a_r a_qs a_z a_b a_s a_bk a_bf a_bl a_bs a_bt a_bp au ag ab ar ae ao ac qq_ruleCount qq_walkState qq_pi bb_kindCount bb_stateCount ba_al ba_pe ba_pc ba_de ba_en ba_bh ba_rd ba_eb ba_eo ba_rc)) ⟨rfl, rfl⟩)
  | some x3 =>
    replace h := oe_s h
    refine k_ifnonnull (tgt := 12) C d_G_drop_7 (by decide) ?_
    refine k_iload_n C d_G_drop_12 rfl 2 rfl rfl ?_
    refine k_istore_n (lv' := [(3, .int p1), (2, .ref (au x3)), (0, .ref a_q), (1, .int p1)]) C d_G_drop_13 rfl (by decide) rfl rfl ?_
    have X14_0 : ∀ (l3_14 : Int32) (qq_pi_14 : Nat → Nat), (Option.bind (f_Table_clear) fun ybb_stateCount_12 => (if ((1 : Int32) = 0 ∨ (1 : Int32) = 1) then some ((1 : Int32), (qq_ruleCount - (1 : Int32)), qq_pi_14, ybb_stateCount_12) else none)) = some (o_r, o_qq_ruleCount, o_qq_pi, o_bb_stateCount) → Wk X { frames := 2, cells := 0, slots := 0, locals := 42 } 4 D (va_A (w_G_drop (cI := cI) (cJ := cJ) (cC := cC) (cZ := cZ) (cR := cR) a_q a_t a_r a_qs a_z a_b a_s a_bk a_bf a_bl a_bs a_bt a_bp au ag ab ar ae ao ac qq_ruleCount qq_walkState qq_pi bb_kindCount bb_stateCount ba_al ba_pe ba_pc ba_de ba_en ba_bh ba_rd ba_eb ba_eo ba_rc) (xs X).heap.size) 0 0 (GE X D (w_G_drop (cI := cI) (cJ := cJ) (cC := cC) (cZ := cZ) (cR := cR) a_q a_t a_r a_qs a_z a_b a_s a_bk a_bf a_bl a_bs a_bt a_bp au ag ab ar ae ao ac qq_ruleCount qq_walkState qq_pi bb_kindCount bb_stateCount ba_al ba_pe ba_pc ba_de ba_en ba_bh ba_rd ba_eb ba_eo ba_rc) (fun (o : Option Value) (w : va_W) => o = some (.int o_r) ∧ w = w_G_drop (cI := cI) (cJ := cJ) (cC := cC) (cZ := cZ) (cR := cR) a_q a_t a_r a_qs a_z a_b a_s a_bk a_bf a_bl a_bs a_bt a_bp au ag ab ar ae ao ac o_qq_ruleCount qq_walkState o_qq_pi bb_kindCount o_bb_stateCount ba_al ba_pe ba_pc ba_de ba_en ba_bh ba_rd ba_eb ba_eo ba_rc) 0 0) (w_G_drop (cI := cI) (cJ := cJ) (cC := cC) (cZ := cZ) (cR := cR) a_q a_t a_r a_qs a_z a_b a_s a_bk a_bf a_bl a_bs a_bt a_bp au ag ab ar ae ao ac qq_ruleCount qq_walkState qq_pi_14 bb_kindCount bb_stateCount ba_al ba_pe ba_pc ba_de ba_en ba_bh ba_rd ba_eb ba_eo ba_rc) [(3, .int l3_14), (2, .ref (au x3)), (0, .ref a_q), (1, .int p1)] [] 64 := by
      intro l3_14 qq_pi_14 h
      refine k_aload_n C d_G_drop_64 rfl 2 rfl rfl ?_
      refine k_dup C d_G_drop_65 rfl rfl ?_
      refine k_getf C d_G_drop_66 hin_G rfl 5 (by decide) mw166 0 rfl rfl rfl ?_
      refine k_iconst C d_G_drop_69 (v := (1 : Int32)) (by decide) rfl ?_
      refine k_isub C d_G_drop_70 rfl ?_
      refine k_putf (ws' := w_G_drop (cI := cI) (cJ := cJ) (cC := cC) (cZ := cZ) (cR := cR) a_q a_t a_r a_qs a_z a_b a_s a_bk a_bf a_bl a_bs a_bt a_bp au ag ab ar ae ao ac (qq_ruleCount - (1 : Int32)) qq_walkState qq_pi_14 bb_kindCount bb_stateCount ba_al ba_pe ba_pc ba_de ba_en ba_bh ba_rd ba_eb ba_eo ba_rc) C d_G_drop_71 hin_G hty_G hnn_G rfl 5 (by decide) mw166 rfl 0 rfl rfl rfl (Nat.le_of_ble_eq_true rfl) rfl rfl ?_
      refine k_aload_n C d_G_drop_74 rfl 2 rfl rfl ?_
      refine k_getf C d_G_drop_75 hin_G rfl 4 (by decide) mw172 0 rfl rfl rfl ?_
      obtain ⟨ybb_stateCount_12, hc13, h⟩ := bd h
      refine k_callVQd (pre := wp_G_drop (cI := cI) (cJ := cJ) (cC := cC) (cZ := cZ) (cR := cR) a_q a_t a_r a_qs a_z a_b a_s a_bk a_bf a_bl a_bs a_bt a_bp au ag ab ar ae ao ac (qq_ruleCount - (1 : Int32)) qq_walkState qq_pi_14 bb_kindCount bb_stateCount) (suf := blks (cI := cI) (cJ := cJ) au ag ab ar ae ao ac ba_al ba_pe ba_pc ba_de ba_en ba_bh ba_rd ba_eb ba_eo ba_rc) (wn := wp_G_drop (cI := cI) (cJ := cJ) (cC := cC) (cZ := cZ) (cR := cR) a_q a_t a_r a_qs a_z a_b a_s a_bk a_bf a_bl a_bs a_bt a_bp au ag ab ar ae ao ac (qq_ruleCount - (1 : Int32)) qq_walkState qq_pi_14 bb_kindCount ybb_stateCount_12) (As := []) (st := []) (st' := []) C d_G_drop_78 (c_Table_clear fu a_b a_z a_s a_bk a_bf a_bl a_bs a_bt a_bp bb_kindCount bb_stateCount ybb_stateCount_12 hc13) co_Table_clear cov_Table_clear mw173 2 rfl rfl (by decide) (by decide) (Nat.le_of_ble_eq_true rfl) rfl [2] [0, 1] [0, 1, 2] rfl (by decide +kernel) rfl (by decide +kernel) (by decide +kernel) rfl (by decide +kernel) rfl rfl ?_
      refine k_iconst C d_G_drop_81 (v := (1 : Int32)) (by decide) rfl ?_
      have g14 := gd1 h
      replace h := gd2 h
      exact k_zret C d_G_drop_82 (nz_bool g14) (tr1 h (fun t => (fun (o : Option Value) (w : va_W) => o = some (.int (t.1)) ∧ w = w_G_drop (cI := cI) (cJ := cJ) (cC := cC) (cZ := cZ) (cR := cR) a_q a_t a_r a_qs a_z a_b a_s a_bk a_bf a_bl a_bs a_bt a_bp au ag ab ar ae ao ac (t.2.1) qq_walkState (t.2.2.1) bb_kindCount (t.2.2.2) ba_al ba_pe ba_pc ba_de ba_en ba_bh ba_rd ba_eb ba_eo ba_rc) (some (Value.int (1 : Int32))) (w_G_drop (cI := cI) (cJ := cJ) (cC := cC) (cZ := cZ) (cR := cR) a_q a_t a_r a_qs a_z a_b a_s a_bk a_bf a_bl a_bs a_bt a_bp au ag ab ar ae ao ac (qq_ruleCount - (1 : Int32)) qq_walkState qq_pi_14 bb_kindCount ybb_stateCount_12 ba_al ba_pe ba_pc ba_de ba_en ba_bh ba_rd ba_eb ba_eo ba_rc)) ⟨rfl, rfl⟩)
    have L14 : ∀ (kk14_0 : Int32 → (Nat → Nat) → Option (Int32 × Int32 × (Nat → Nat) × Int32)) (hX14_0 : ∀ (l3_14 : Int32) (qq_pi_14 : Nat → Nat), kk14_0 l3_14 qq_pi_14 = some (o_r, o_qq_ruleCount, o_qq_pi, o_bb_stateCount) → Wk X { frames := 2, cells := 0, slots := 0, locals := 42 } 4 D (va_A (w_G_drop (cI := cI) (cJ := cJ) (cC := cC) (cZ := cZ) (cR := cR) a_q a_t a_r a_qs a_z a_b a_s a_bk a_bf a_bl a_bs a_bt a_bp au ag ab ar ae ao ac qq_ruleCount qq_walkState qq_pi bb_kindCount bb_stateCount ba_al ba_pe ba_pc ba_de ba_en ba_bh ba_rd ba_eb ba_eo ba_rc) (xs X).heap.size) 0 0 (GE X D (w_G_drop (cI := cI) (cJ := cJ) (cC := cC) (cZ := cZ) (cR := cR) a_q a_t a_r a_qs a_z a_b a_s a_bk a_bf a_bl a_bs a_bt a_bp au ag ab ar ae ao ac qq_ruleCount qq_walkState qq_pi bb_kindCount bb_stateCount ba_al ba_pe ba_pc ba_de ba_en ba_bh ba_rd ba_eb ba_eo ba_rc) (fun (o : Option Value) (w : va_W) => o = some (.int o_r) ∧ w = w_G_drop (cI := cI) (cJ := cJ) (cC := cC) (cZ := cZ) (cR := cR) a_q a_t a_r a_qs a_z a_b a_s a_bk a_bf a_bl a_bs a_bt a_bp au ag ab ar ae ao ac o_qq_ruleCount qq_walkState o_qq_pi bb_kindCount o_bb_stateCount ba_al ba_pe ba_pc ba_de ba_en ba_bh ba_rd ba_eb ba_eo ba_rc) 0 0) (w_G_drop (cI := cI) (cJ := cJ) (cC := cC) (cZ := cZ) (cR := cR) a_q a_t a_r a_qs a_z a_b a_s a_bk a_bf a_bl a_bs a_bt a_bp au ag ab ar ae ao ac qq_ruleCount qq_walkState qq_pi_14 bb_kindCount bb_stateCount ba_al ba_pe ba_pc ba_de ba_en ba_bh ba_rd ba_eb ba_eo ba_rc) [(3, .int l3_14), (2, .ref (au x3)), (0, .ref a_q), (1, .int p1)] [] 64) (n_14 : Nat) (l3_14 : Int32) (qq_pi_14 : Nat → Nat), f_G_drop_L14 qq_ruleCount x3 kk14_0 n_14 l3_14 qq_pi_14 = some (o_r, o_qq_ruleCount, o_qq_pi, o_bb_stateCount) → Wk X { frames := 2, cells := 0, slots := 0, locals := 42 } 4 D (va_A (w_G_drop (cI := cI) (cJ := cJ) (cC := cC) (cZ := cZ) (cR := cR) a_q a_t a_r a_qs a_z a_b a_s a_bk a_bf a_bl a_bs a_bt a_bp au ag ab ar ae ao ac qq_ruleCount qq_walkState qq_pi bb_kindCount bb_stateCount ba_al ba_pe ba_pc ba_de ba_en ba_bh ba_rd ba_eb ba_eo ba_rc) (xs X).heap.size) 0 0 (GE X D (w_G_drop (cI := cI) (cJ := cJ) (cC := cC) (cZ := cZ) (cR := cR) a_q a_t a_r a_qs a_z a_b a_s a_bk a_bf a_bl a_bs a_bt a_bp au ag ab ar ae ao ac qq_ruleCount qq_walkState qq_pi bb_kindCount bb_stateCount ba_al ba_pe ba_pc ba_de ba_en ba_bh ba_rd ba_eb ba_eo ba_rc) (fun (o : Option Value) (w : va_W) => o = some (.int o_r) ∧ w = w_G_drop (cI := cI) (cJ := cJ) (cC := cC) (cZ := cZ) (cR := cR) a_q a_t a_r a_qs a_z a_b a_s a_bk a_bf a_bl a_bs a_bt a_bp au ag ab ar ae ao ac o_qq_ruleCount qq_walkState o_qq_pi bb_kindCount o_bb_stateCount ba_al ba_pe ba_pc ba_de ba_en ba_bh ba_rd ba_eb ba_eo ba_rc) 0 0) (w_G_drop (cI := cI) (cJ := cJ) (cC := cC) (cZ := cZ) (cR := cR) a_q a_t a_r a_qs a_z a_b a_s a_bk a_bf a_bl a_bs a_bt a_bp au ag ab ar ae ao ac qq_ruleCount qq_walkState qq_pi_14 bb_kindCount bb_stateCount ba_al ba_pe ba_pc ba_de ba_en ba_bh ba_rd ba_eb ba_eo ba_rc) [(3, .int l3_14), (2, .ref (au x3)), (0, .ref a_q), (1, .int p1)] [] 14 := by
      intro kk14_0 hX14_0 n_14
      induction n_14 with
      | zero =>
        intro l3_14 qq_pi_14 h
        exact nS h
      | succ n_14 ih14 =>
        intro l3_14 qq_pi_14 h
        replace h := (f_G_drop_L14_s _ _ _ _ _ _).symm.trans h
        refine k_iload_n C d_G_drop_14 rfl 0 rfl rfl ?_
        refine k_iconst C d_G_drop_15 (v := (1 : Int32)) (by decide) rfl ?_
        refine k_iadd C d_G_drop_16 rfl ?_
        refine k_aload_n C d_G_drop_17 rfl 2 rfl rfl ?_
        refine k_getf C d_G_drop_18 hin_G rfl 5 (by decide) mw166 0 rfl rfl rfl ?_
        refine k_icmp_ge (tgt := 64) C d_G_drop_21 (by decide) rfl (fun c5 => ?_) (fun c5 => ?_)
        · replace h := gi_t h c5
          exact hX14_0 l3_14 qq_pi_14 h
        · replace h := gi_f h c5
          refine k_iload_n C d_G_drop_24 rfl 0 rfl rfl ?_
          refine k_iconst C d_G_drop_25 (v := (1 : Int32)) (by decide) rfl ?_
          refine k_iadd C d_G_drop_26 rfl ?_
          refine k_aload_n C d_G_drop_27 rfl 2 rfl rfl ?_
          refine k_getf C d_G_drop_28 hin_G rfl 2 (by decide) mw165 0 rfl rfl rfl ?_
          refine k_alen (z := (6 : Int32)) C d_G_drop_31 1 4 rfl rfl rfl rfl ?_
          refine k_icmp_ge (tgt := 64) C d_G_drop_32 (by decide) rfl (fun c6 => ?_) (fun c6 => ?_)
          · replace h := gi_t h c6
            exact hX14_0 l3_14 qq_pi_14 h
          · replace h := gi_f h c6
            refine k_aload_n C d_G_drop_35 rfl 2 rfl rfl ?_
            refine k_getf C d_G_drop_36 hin_G rfl 2 (by decide) mw165 0 rfl rfl rfl ?_
            refine k_iload_n C d_G_drop_39 rfl 0 rfl rfl ?_
            refine k_aload_n C d_G_drop_40 rfl 2 rfl rfl ?_
            refine k_getf C d_G_drop_41 hin_G rfl 2 (by decide) mw165 0 rfl rfl rfl ?_
            refine k_iload_n C d_G_drop_44 rfl 0 rfl rfl ?_
            refine k_iconst C d_G_drop_45 (v := (1 : Int32)) (by decide) rfl ?_
            refine k_iadd C d_G_drop_46 rfl ?_
            have g7 := gd1 h
            replace h := gd2 h
            refine k_aldq (v := Value.ref (au (qq_pi_14 (l3_14 + (1 : Int32)).toNatClampNeg))) C d_G_drop_47 1 4 rfl rfl (inB_in g7) rfl rfl ?_
            have g8 := gd1 h
            replace h := gd2 h
            have g9 := gd1 h
            replace h := gd2 h
            refine k_astq (ws' := w_G_drop (cI := cI) (cJ := cJ) (cC := cC) (cZ := cZ) (cR := cR) a_q a_t a_r a_qs a_z a_b a_s a_bk a_bf a_bl a_bs a_bt a_bp au ag ab ar ae ao ac qq_ruleCount qq_walkState (va_up qq_pi_14 l3_14.toNatClampNeg (qq_pi_14 (l3_14 + (1 : Int32)).toNatClampNeg)) bb_kindCount bb_stateCount ba_al ba_pe ba_pc ba_de ba_en ba_bh ba_rd ba_eb ba_eo ba_rc) (rc := ("GlobProfile$Rule", T_Rule, 3)) C d_G_drop_48 1 4 rfl rfl (3 + 7 * (qq_pi_14 (l3_14 + (1 : Int32)).toNatClampNeg) + 0) (blk_0 rfl g9) rfl (inB_in g8) (by rw [slot_up]; rfl) rfl ?_
            refine k_aload_n C d_G_drop_49 rfl 2 rfl rfl ?_
            refine k_getf C d_G_drop_50 hin_G rfl 2 (by decide) mw165 0 rfl rfl rfl ?_
            refine k_iload_n C d_G_drop_53 rfl 0 rfl rfl ?_
            refine k_iconst C d_G_drop_54 (v := (1 : Int32)) (by decide) rfl ?_
            refine k_iadd C d_G_drop_55 rfl ?_
            refine k_aload_n C d_G_drop_56 rfl 1 rfl rfl ?_
            have g10 := gd1 h
            replace h := gd2 h
            have g11 := gd1 h
            replace h := gd2 h
            refine k_astq (ws' := w_G_drop (cI := cI) (cJ := cJ) (cC := cC) (cZ := cZ) (cR := cR) a_q a_t a_r a_qs a_z a_b a_s a_bk a_bf a_bl a_bs a_bt a_bp au ag ab ar ae ao ac qq_ruleCount qq_walkState (va_up (va_up qq_pi_14 l3_14.toNatClampNeg (qq_pi_14 (l3_14 + (1 : Int32)).toNatClampNeg)) (l3_14 + (1 : Int32)).toNatClampNeg x3) bb_kindCount bb_stateCount ba_al ba_pe ba_pc ba_de ba_en ba_bh ba_rd ba_eb ba_eo ba_rc) (rc := ("GlobProfile$Rule", T_Rule, 3)) C d_G_drop_57 1 4 rfl rfl (3 + 7 * x3 + 0) (blk_0 rfl g11) rfl (inB_in g10) (by rw [slot_up]; rfl) rfl ?_
            refine k_iinc (lv' := [(3, .int (l3_14 + 1)), (2, .ref (au x3)), (0, .ref a_q), (1, .int p1)]) C d_G_drop_58 0 rfl rfl (by decide) rfl rfl ?_
            refine k_goto (tgt := 14) C d_G_drop_61 (by decide) ?_
            exact ih14 (l3_14 + 1) (va_up (va_up qq_pi_14 l3_14.toNatClampNeg (qq_pi_14 (l3_14 + (1 : Int32)).toNatClampNeg)) (l3_14 + (1 : Int32)).toNatClampNeg x3) h
    exact L14 (fun l3_14 qq_pi_14 => (Option.bind (f_Table_clear) fun ybb_stateCount_12 => (if ((1 : Int32) = 0 ∨ (1 : Int32) = 1) then some ((1 : Int32), (qq_ruleCount - (1 : Int32)), qq_pi_14, ybb_stateCount_12) else none))) X14_0 fu p1 qq_pi h
