theorem d_G_pieceSum_0 : decode b_G_pieceSum 0 = .ok (.iconst 0, 1) := by decide +kernel
theorem d_G_pieceSum_1 : decode b_G_pieceSum 1 = .ok (.istore_n 1, 1) := by decide +kernel
theorem d_G_pieceSum_2 : decode b_G_pieceSum 2 = .ok (.iconst 0, 1) := by decide +kernel
theorem d_G_pieceSum_3 : decode b_G_pieceSum 3 = .ok (.istore_n 2, 1) := by decide +kernel
theorem d_G_pieceSum_4 : decode b_G_pieceSum 4 = .ok (.iload_n 2, 1) := by decide +kernel
theorem d_G_pieceSum_5 : decode b_G_pieceSum 5 = .ok (.aload_n 0, 1) := by decide +kernel
theorem d_G_pieceSum_6 : decode b_G_pieceSum 6 = .ok (.getfield 48, 3) := by decide +kernel
theorem d_G_pieceSum_9 : decode b_G_pieceSum 9 = .ok (.if_icmp .ge 17, 3) := by decide +kernel
theorem d_G_pieceSum_12 : decode b_G_pieceSum 12 = .ok (.iload_n 1, 1) := by decide +kernel
theorem d_G_pieceSum_13 : decode b_G_pieceSum 13 = .ok (.aload_n 0, 1) := by decide +kernel
theorem d_G_pieceSum_14 : decode b_G_pieceSum 14 = .ok (.iload_n 2, 1) := by decide +kernel
theorem d_G_pieceSum_15 : decode b_G_pieceSum 15 = .ok (.invokevirtual 128, 3) := by decide +kernel
theorem d_G_pieceSum_18 : decode b_G_pieceSum 18 = .ok (.iadd, 1) := by decide +kernel
theorem d_G_pieceSum_19 : decode b_G_pieceSum 19 = .ok (.istore_n 1, 1) := by decide +kernel
theorem d_G_pieceSum_20 : decode b_G_pieceSum 20 = .ok (.iinc 2 1, 3) := by decide +kernel
theorem d_G_pieceSum_23 : decode b_G_pieceSum 23 = .ok (.goto (-19), 3) := by decide +kernel
theorem d_G_pieceSum_26 : decode b_G_pieceSum 26 = .ok (.iload_n 1, 1) := by decide +kernel
theorem d_G_pieceSum_27 : decode b_G_pieceSum 27 = .ok (.ireturn, 1) := by decide +kernel
abbrev wp_G_pieceSum {cI cJ cC cZ cR : ClassId} (a_q a_t a_r a_qs a_z a_b : Nat) (au ag ab ar ae ao ac : Nat → Nat) (qq_ruleCount : Int32) (qq_walkState : Int32) (qq_pi : Nat → Nat) : va_W := [(a_q, .inr (7, [.ref a_t, .ref a_r, .ref a_qs, .ref a_z, .ref a_b, .int qq_ruleCount, .int qq_walkState])), (a_qs, .inl (cR, 6, .inr (.inr (.inr (.inr (fun j => some (au (qq_pi j))))))))]
abbrev w_G_pieceSum {cI cJ cC cZ cR : ClassId} (a_q a_t a_r a_qs a_z a_b : Nat) (au ag ab ar ae ao ac : Nat → Nat) (qq_ruleCount : Int32) (qq_walkState : Int32) (qq_pi : Nat → Nat) (ba_al : Nat → Int32) (ba_pe : Nat → Int32) (ba_pc : Nat → Int32) (ba_de : Nat → Int32) (ba_en : Nat → Int64) (ba_bh : Nat → Nat → Int64) (ba_rd : Nat → Nat → Int64) (ba_eb : Nat → Nat → Int64) (ba_eo : Nat → Nat → Int64) (ba_rc : Nat → Nat → Int32) : va_W := wp_G_pieceSum (cI := cI) (cJ := cJ) (cC := cC) (cZ := cZ) (cR := cR) a_q a_t a_r a_qs a_z a_b au ag ab ar ae ao ac qq_ruleCount qq_walkState qq_pi ++ blks (cI := cI) (cJ := cJ) au ag ab ar ae ao ac ba_al ba_pe ba_pc ba_de ba_en ba_bh ba_rd ba_eb ba_eo ba_rc
def f_G_pieceSum_L4 (qq_ruleCount : Int32) (qq_pi : Nat → Nat) (ba_pc : Nat → Int32) (kk4_0 : Int32 → Int32 → Option (Int32)) : Nat → Int32 → Int32 → Option (Int32)
  | 0, _, _ => none
  | n_4 + 1, l2_4, l1_4 => (if qq_ruleCount ≤ l2_4 then (kk4_0 l2_4 l1_4) else (Option.bind (f_G_pieces l2_4 qq_ruleCount qq_pi ba_pc) fun r2 => (f_G_pieceSum_L4 qq_ruleCount qq_pi ba_pc kk4_0 n_4 (l2_4 + 1) (l1_4 + r2))))
theorem f_G_pieceSum_L4_s (qq_ruleCount : Int32) (qq_pi : Nat → Nat) (ba_pc : Nat → Int32) (kk4_0 : Int32 → Int32 → Option (Int32)) (n_4 : Nat) (l2_4 : Int32) (l1_4 : Int32) : f_G_pieceSum_L4 qq_ruleCount qq_pi ba_pc kk4_0 (n_4 + 1) l2_4 l1_4 = (if qq_ruleCount ≤ l2_4 then (kk4_0 l2_4 l1_4) else (Option.bind (f_G_pieces l2_4 qq_ruleCount qq_pi ba_pc) fun r2 => (f_G_pieceSum_L4 qq_ruleCount qq_pi ba_pc kk4_0 n_4 (l2_4 + 1) (l1_4 + r2)))) := rfl
def f_G_pieceSum (fu : Nat) (qq_ruleCount : Int32) (qq_pi : Nat → Nat) (ba_pc : Nat → Int32) : Option (Int32) := (f_G_pieceSum_L4 qq_ruleCount qq_pi ba_pc (fun l2_4 l1_4 => some l1_4) fu (0 : Int32) (0 : Int32))
set_option maxRecDepth 100000 in
set_option maxHeartbeats 4000000 in
theorem c_G_pieceSum {l : Launch} {D : va_G} {cI cJ cC cZ cR : ClassId} (fu : Nat) (a_q a_t a_r a_qs a_z a_b : Nat) (au ag ab ar ae ao ac : Nat → Nat)  (qq_ruleCount : Int32) (qq_walkState : Int32) (qq_pi : Nat → Nat) (ba_al : Nat → Int32) (ba_pe : Nat → Int32) (ba_pc : Nat → Int32) (ba_de : Nat → Int32) (ba_en : Nat → Int64) (ba_bh : Nat → Nat → Int64) (ba_rd : Nat → Nat → Int64) (ba_eb : Nat → Nat → Int64) (ba_eo : Nat → Nat → Int64) (ba_rc : Nat → Nat → Int32)  (o_r : Int32) (h : f_G_pieceSum fu qq_ruleCount qq_pi ba_pc = some o_r) : GM l D (tysL cI cJ cC cZ cR) y_G_pieceSum b_G_pieceSum 3 (some (.int)) { frames := 3, cells := 0, slots := 0, locals := 64 } [.ref a_q] (w_G_pieceSum (cI := cI) (cJ := cJ) (cC := cC) (cZ := cZ) (cR := cR) a_q a_t a_r a_qs a_z a_b au ag ab ar ae ao ac qq_ruleCount qq_walkState qq_pi ba_al ba_pe ba_pc ba_de ba_en ba_bh ba_rd ba_eb ba_eo ba_rc) (fun (o : Option Value) (w : va_W) => o = some (.int o_r) ∧ w = w_G_pieceSum (cI := cI) (cJ := cJ) (cC := cC) (cZ := cZ) (cR := cR) a_q a_t a_r a_qs a_z a_b au ag ab ar ae ao ac qq_ruleCount qq_walkState qq_pi ba_al ba_pe ba_pc ba_de ba_en ba_bh ba_rd ba_eb ba_eo ba_rc) := by
  refine GM.of (by decide) (Nat.le_of_ble_eq_true rfl) (lv := [(0, .ref a_q)]) rfl ?_
  intro X hX C
  subst hX
  refine k_iconst C d_G_pieceSum_0 (v := (0 : Int32)) (by decide) rfl ?_
  refine k_istore_n (lv' := [(1, .int (0 : Int32)), (0, .ref a_q)]) C d_G_pieceSum_1 rfl (by decide) rfl rfl ?_
  refine k_iconst C d_G_pieceSum_2 (v := (0 : Int32)) (by decide) rfl ?_
  refine k_istore_n (lv' := [(2, .int (0 : Int32)), (1, .int (0 : Int32)), (0, .ref a_q)]) C d_G_pieceSum_3 rfl (by decide) rfl rfl ?_
  have X4_0 : ∀ (l2_4 : Int32) (l1_4 : Int32), some l1_4 = some o_r → Wk X { frames := 3, cells := 0, slots := 0, locals := 64 } 3 D (va_A (w_G_pieceSum (cI := cI) (cJ := cJ) (cC := cC) (cZ := cZ) (cR := cR) a_q a_t a_r a_qs a_z a_b au ag ab ar ae ao ac qq_ruleCount qq_walkState qq_pi ba_al ba_pe ba_pc ba_de ba_en ba_bh ba_rd ba_eb ba_eo ba_rc) (xs X).heap.size) 0 0 (GE X D (w_G_pieceSum (cI := cI) (cJ := cJ) (cC := cC) (cZ := cZ) (cR := cR) a_q a_t a_r a_qs a_z a_b au ag ab ar ae ao ac qq_ruleCount qq_walkState qq_pi ba_al ba_pe ba_pc ba_de ba_en ba_bh ba_rd ba_eb ba_eo ba_rc) (fun (o : Option Value) (w : va_W) => o = some (.int o_r) ∧ w = w_G_pieceSum (cI := cI) (cJ := cJ) (cC := cC) (cZ := cZ) (cR := cR) a_q a_t a_r a_qs a_z a_b au ag ab ar ae ao ac qq_ruleCount qq_walkState qq_pi ba_al ba_pe ba_pc ba_de ba_en ba_bh ba_rd ba_eb ba_eo ba_rc) 0 0) (w_G_pieceSum (cI := cI) (cJ := cJ) (cC := cC) (cZ := cZ) (cR := cR) a_q a_t a_r a_qs a_z a_b au ag ab ar ae ao ac qq_ruleCount qq_walkState qq_pi ba_al ba_pe ba_pc ba_de ba_en ba_bh ba_rd ba_eb ba_eo ba_rc) [(2, .int l2_4), (1, .int l1_4), (0, .ref a_q)] [] 26 := by
    intro l2_4 l1_4 h
    refine k_iload_n C d_G_pieceSum_26 rfl 1 rfl rfl ?_
    exact k_iret C d_G_pieceSum_27 (tr1 h (fun t => (fun (o : Option Value) (w : va_W) => o = some (.int (t)) ∧ w = w_G_pieceSum (cI := cI) (cJ := cJ) (cC := cC) (cZ := cZ) (cR := cR) a_q a_t a_r a_qs a_z a_b au ag ab ar ae ao ac qq_ruleCount qq_walkState qq_pi ba_al ba_pe ba_pc ba_de ba_en ba_bh ba_rd ba_eb ba_eo ba_rc) (some (Value.int l1_4)) (w_G_pieceSum (cI := cI) (cJ := cJ) (cC := cC) (cZ := cZ) (cR := cR) a_q a_t a_r a_qs a_z a_b au ag ab ar ae ao ac qq_ruleCount qq_walkState qq_pi ba_al ba_pe ba_pc ba_de ba_en ba_bh ba_rd ba_eb ba_eo ba_rc)) ⟨rfl, rfl⟩)
  have L4 : ∀ (kk4_0 : Int32 → Int32 → Option (Int32)) (hX4_0 : ∀ (l2_4 : Int32) (l1_4 : Int32), kk4_0 l2_4 l1_4 = some o_r → Wk X { frames := 3, cells := 0, slots := 0, locals := 64 } 3 D (va_A (w_G_pieceSum (cI := cI) (cJ := cJ) (cC := cC) (cZ := cZ) (cR := cR) a_q a_t a_r a_qs a_z a_b au ag ab ar ae ao ac qq_ruleCount qq_walkState qq_pi ba_al ba_pe ba_pc ba_de ba_en ba_bh ba_rd ba_eb ba_eo ba_rc) (xs X).heap.size) 0 0 (GE X D (w_G_pieceSum (cI := cI) (cJ := cJ) (cC := cC) (cZ := cZ) (cR := cR) a_q a_t a_r a_qs a_z a_b au ag ab ar ae ao ac qq_ruleCount qq_walkState qq_pi ba_al ba_pe ba_pc ba_de ba_en ba_bh ba_rd ba_eb ba_eo ba_rc) (fun (o : Option Value) (w : va_W) => o = some (.int o_r) ∧ w = w_G_pieceSum (cI := cI) (cJ := cJ) (cC := cC) (cZ := cZ) (cR := cR) a_q a_t a_r a_qs a_z a_b au ag ab ar ae ao ac qq_ruleCount qq_walkState qq_pi ba_al ba_pe ba_pc ba_de ba_en ba_bh ba_rd ba_eb ba_eo ba_rc) 0 0) (w_G_pieceSum (cI := cI) (cJ := cJ) (cC := cC) (cZ := cZ) (cR := cR) a_q a_t a_r a_qs a_z a_b au ag ab ar ae ao ac qq_ruleCount qq_walkState qq_pi ba_al ba_pe ba_pc ba_de ba_en ba_bh ba_rd ba_eb ba_eo ba_rc) [(2, .int l2_4), (1, .int l1_4), (0, .ref a_q)] [] 26) (n_4 : Nat) (l2_4 : Int32) (l1_4 : Int32), f_G_pieceSum_L4 qq_ruleCount qq_pi ba_pc kk4_0 n_4 l2_4 l1_4 = some o_r → Wk X { frames := 3, cells := 0, slots := 0, locals := 64 } 3 D (va_A (w_G_pieceSum (cI := cI) (cJ := cJ) (cC := cC) (cZ := cZ) (cR := cR) a_q a_t a_r a_qs a_z a_b au ag ab ar ae ao ac qq_ruleCount qq_walkState qq_pi ba_al ba_pe ba_pc ba_de ba_en ba_bh ba_rd ba_eb ba_eo ba_rc) (xs X).heap.size) 0 0 (GE X D (w_G_pieceSum (cI := cI) (cJ := cJ) (cC := cC) (cZ := cZ) (cR := cR) a_q a_t a_r a_qs a_z a_b au ag ab ar ae ao ac qq_ruleCount qq_walkState qq_pi ba_al ba_pe ba_pc ba_de ba_en ba_bh ba_rd ba_eb ba_eo ba_rc) (fun (o : Option Value) (w : va_W) => o = some (.int o_r) ∧ w = w_G_pieceSum (cI := cI) (cJ := cJ) (cC := cC) (cZ := cZ) (cR := cR) a_q a_t a_r a_qs a_z a_b au ag ab ar ae ao ac qq_ruleCount qq_walkState qq_pi ba_al ba_pe ba_pc ba_de ba_en ba_bh ba_rd ba_eb ba_eo ba_rc) 0 0) (w_G_pieceSum (cI := cI) (cJ := cJ) (cC := cC) (cZ := cZ) (cR := cR) a_q a_t a_r a_qs a_z a_b au ag ab ar ae ao ac qq_ruleCount qq_walkState qq_pi ba_al ba_pe ba_pc ba_de ba_en ba_bh ba_rd ba_eb ba_eo ba_rc) [(2, .int l2_4), (1, .int l1_4), (0, .ref a_q)] [] 4 := by
    intro kk4_0 hX4_0 n_4
    induction n_4 with
    | zero =>
      intro l2_4 l1_4 h
      exact nS h
    | succ n_4 ih4 =>
      intro l2_4 l1_4 h
      replace h := (f_G_pieceSum_L4_s _ _ _ _ _ _ _).symm.trans h
      refine k_iload_n C d_G_pieceSum_4 rfl 0 rfl rfl ?_
      refine k_aload_n C d_G_pieceSum_5 rfl 2 rfl rfl ?_
      refine k_getf C d_G_pieceSum_6 hin_G rfl 5 (by decide) mw166 0 rfl rfl rfl ?_
      refine k_icmp_ge (tgt := 26) C d_G_pieceSum_9 (by decide) rfl (fun c1 => ?_) (fun c1 => ?_)
      · replace h := gi_t h c1
        exact hX4_0 l2_4 l1_4 h
      · replace h := gi_f h c1
        refine k_iload_n C d_G_pieceSum_12 rfl 1 rfl rfl ?_
        refine k_aload_n C d_G_pieceSum_13 rfl 2 rfl rfl ?_
        refine k_iload_n C d_G_pieceSum_14 rfl 0 rfl rfl ?_
        obtain ⟨r2, hc3, h⟩ := bd h
        refine k_callVPd (pre := wp_G_pieceSum (cI := cI) (cJ := cJ) (cC := cC) (cZ := cZ) (cR := cR) a_q a_t a_r a_qs a_z a_b au ag ab ar ae ao ac qq_ruleCount qq_walkState qq_pi) (suf := blks (cI := cI) (cJ := cJ) au ag ab ar ae ao ac ba_al ba_pe ba_pc ba_de ba_en ba_bh ba_rd ba_eb ba_eo ba_rc) (suf' := blks (cI := cI) (cJ := cJ) au ag ab ar ae ao ac ba_al ba_pe ba_pc ba_de ba_en ba_bh ba_rd ba_eb ba_eo ba_rc) (wc := wp_G_pieces (cI := cI) (cJ := cJ) (cC := cC) (cZ := cZ) (cR := cR) a_q a_t a_r a_qs a_z a_b au ag ab ar ae ao ac qq_ruleCount qq_walkState qq_pi) (w1 := wp_G_pieces (cI := cI) (cJ := cJ) (cC := cC) (cZ := cZ) (cR := cR) a_q a_t a_r a_qs a_z a_b au ag ab ar ae ao ac qq_ruleCount qq_walkState qq_pi) (wn := wp_G_pieceSum (cI := cI) (cJ := cJ) (cC := cC) (cZ := cZ) (cR := cR) a_q a_t a_r a_qs a_z a_b au ag ab ar ae ao ac qq_ruleCount qq_walkState qq_pi) (As := [.int l2_4]) (st := [.int l1_4]) (st' := [.int r2, .int l1_4]) C d_G_pieceSum_15 (c_G_pieces fu a_q a_t a_r a_qs a_z a_b au ag ab ar ae ao ac qq_ruleCount qq_walkState qq_pi ba_al ba_pe ba_pc ba_de ba_en ba_bh ba_rd ba_eb ba_eo ba_rc l2_4 r2 hc3) co_G_pieces cov_G_pieces mw171 0 rfl rfl (by decide) (by decide) (Nat.le_of_ble_eq_true rfl) rfl [0, 1] [] [0, 1] rfl (by decide +kernel) rfl (by decide +kernel) (by decide +kernel) rfl (by decide +kernel) rfl rfl ?_
        refine k_iadd C d_G_pieceSum_18 rfl ?_
        refine k_istore_n (lv' := [(1, .int (l1_4 + r2)), (2, .int l2_4), (0, .ref a_q)]) C d_G_pieceSum_19 rfl (by decide) rfl rfl ?_
        refine k_iinc (lv' := [(2, .int (l2_4 + 1)), (1, .int (l1_4 + r2)), (0, .ref a_q)]) C d_G_pieceSum_20 1 rfl rfl (by decide) rfl rfl ?_
        refine k_goto (tgt := 4) C d_G_pieceSum_23 (by decide) ?_
        exact ih4 (l2_4 + 1) (l1_4 + r2) h
  exact L4 (fun l2_4 l1_4 => some l1_4) X4_0 fu (0 : Int32) (0 : Int32) h
