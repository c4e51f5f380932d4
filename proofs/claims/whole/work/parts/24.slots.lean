theorem d_G_slotAt_0 : decode b_G_slotAt 0 = .ok (.iload_n 1, 1) := by decide +kernel
theorem d_G_slotAt_1 : decode b_G_slotAt 1 = .ok (.ifCond .lt 21, 3) := by decide +kernel
theorem d_G_slotAt_4 : decode b_G_slotAt 4 = .ok (.iload_n 1, 1) := by decide +kernel
theorem d_G_slotAt_5 : decode b_G_slotAt 5 = .ok (.aload_n 0, 1) := by decide +kernel
theorem d_G_slotAt_6 : decode b_G_slotAt 6 = .ok (.getfield 27, 3) := by decide +kernel
theorem d_G_slotAt_9 : decode b_G_slotAt 9 = .ok (.arraylength, 1) := by decide +kernel
theorem d_G_slotAt_10 : decode b_G_slotAt 10 = .ok (.if_icmp .ge 12, 3) := by decide +kernel
theorem d_G_slotAt_13 : decode b_G_slotAt 13 = .ok (.aload_n 0, 1) := by decide +kernel
theorem d_G_slotAt_14 : decode b_G_slotAt 14 = .ok (.getfield 27, 3) := by decide +kernel
theorem d_G_slotAt_17 : decode b_G_slotAt 17 = .ok (.iload_n 1, 1) := by decide +kernel
theorem d_G_slotAt_18 : decode b_G_slotAt 18 = .ok (.aaload, 1) := by decide +kernel
theorem d_G_slotAt_19 : decode b_G_slotAt 19 = .ok (.goto 4, 3) := by decide +kernel
theorem d_G_slotAt_22 : decode b_G_slotAt 22 = .ok (.aconst_null, 1) := by decide +kernel
theorem d_G_slotAt_23 : decode b_G_slotAt 23 = .ok (.areturn, 1) := by decide +kernel
abbrev w_G_slotAt {cI cJ cC cZ cR : ClassId} (a_q a_t a_r a_qs a_z a_b : Nat) (au ag ab ar ae ao ac : Nat → Nat) (qq_ruleCount : Int32) (qq_walkState : Int32) (qq_pi : Nat → Nat) : va_W := [(a_q, .inr (7, [.ref a_t, .ref a_r, .ref a_qs, .ref a_z, .ref a_b, .int qq_ruleCount, .int qq_walkState])), (a_qs, .inl (cR, 6, .inr (.inr (.inr (.inr (fun j => some (au (qq_pi j))))))))]
def f_G_slotAt (p1 : Int32) (qq_pi : Nat → Nat) : Option (Option Nat) := (if p1 < 0 then some none else (if (6 : Int32) ≤ p1 then some none else (if inB p1 6 = true then some (some (qq_pi p1.toNatClampNeg)) else none)))
set_option maxRecDepth 100000 in
set_option maxHeartbeats 4000000 in
theorem c_G_slotAt {l : Launch} {D : va_G} {cI cJ cC cZ cR : ClassId} (fu : Nat) (a_q a_t a_r a_qs a_z a_b : Nat) (au ag ab ar ae ao ac : Nat → Nat)  (qq_ruleCount : Int32) (qq_walkState : Int32) (qq_pi : Nat → Nat) (p1 : Int32) (o_r : Option Nat) (h : f_G_slotAt p1 qq_pi = some o_r) : GM l D (tysL cI cJ cC cZ cR) y_G_slotAt b_G_slotAt 2 (some (.object "GlobProfile$Rule")) { frames := 0, cells := 0, slots := 0, locals := 0 } [.ref a_q, .int p1] (w_G_slotAt (cI := cI) (cJ := cJ) (cC := cC) (cZ := cZ) (cR := cR) a_q a_t a_r a_qs a_z a_b au ag ab ar ae ao ac qq_ruleCount qq_walkState qq_pi) (fun (o : Option Value) (w : va_W) => o = some (va_rf (Option.map au o_r)) ∧ w = w_G_slotAt (cI := cI) (cJ := cJ) (cC := cC) (cZ := cZ) (cR := cR) a_q a_t a_r a_qs a_z a_b au ag ab ar ae ao ac qq_ruleCount qq_walkState qq_pi) := by
  refine GM.of (by decide) (Nat.le_of_ble_eq_true rfl) (lv := [(0, .ref a_q), (1, .int p1)]) rfl ?_
  intro X hX C
  subst hX
  refine k_iload_n C d_G_slotAt_0 rfl 1 rfl rfl ?_
  refine k_if_lt (tgt := 22) C d_G_slotAt_1 (by decide) rfl (fun c1 => ?_) (fun c1 => ?_)
  · replace h := gi_t h c1
    refine k_null C d_G_slotAt_22 rfl ?_
    exact k_aret C (Or.inl ⟨_, rfl⟩) (Or.inl rfl) d_G_slotAt_23 (tr1 h (fun t => (fun (o : Option Value) (w : va_W) => o = some (va_rf (Option.map au (t))) ∧ w = w_G_slotAt (cI := cI) (cJ := cJ) (cC := cC) (cZ := cZ) (cR := cR) a_q a_t a_r a_qs a_z a_b au ag ab ar ae ao ac qq_ruleCount qq_walkState qq_pi) (some (Value.null)) (w_G_slotAt (cI := cI) (cJ := cJ) (cC := cC) (cZ := cZ) (cR := cR) a_q a_t a_r a_qs a_z a_b au ag ab ar ae ao ac qq_ruleCount qq_walkState qq_pi)) ⟨rfl, rfl⟩)
  · replace h := gi_f h c1
    refine k_iload_n C d_G_slotAt_4 rfl 1 rfl rfl ?_
    refine k_aload_n C d_G_slotAt_5 rfl 0 rfl rfl ?_
    refine k_getf C d_G_slotAt_6 hin_G rfl 2 (by decide) mw165 0 rfl rfl rfl ?_
    refine k_alen (z := (6 : Int32)) C d_G_slotAt_9 1 4 rfl rfl rfl rfl ?_
    refine k_icmp_ge (tgt := 22) C d_G_slotAt_10 (by decide) rfl (fun c2 => ?_) (fun c2 => ?_)
    · replace h := gi_t h c2
      refine k_null C d_G_slotAt_22 rfl ?_
      exact k_aret C (Or.inl ⟨_, rfl⟩) (Or.inl rfl) d_G_slotAt_23 (tr1 h (fun t => (fun (o : Option Value) (w : va_W) => o = some (va_rf (Option.map au (t))) ∧ w = w_G_slotAt (cI := cI) (cJ := cJ) (cC := cC) (cZ := cZ) (cR := cR) a_q a_t a_r a_qs a_z a_b au ag ab ar ae ao ac qq_ruleCount qq_walkState qq_pi) (some (Value.null)) (w_G_slotAt (cI := cI) (cJ := cJ) (cC := cC) (cZ := cZ) (cR := cR) a_q a_t a_r a_qs a_z a_b au ag ab ar ae ao ac qq_ruleCount qq_walkState qq_pi)) ⟨rfl, rfl⟩)
    · replace h := gi_f h c2
      refine k_aload_n C d_G_slotAt_13 rfl 0 rfl rfl ?_
      refine k_getf C d_G_slotAt_14 hin_G rfl 2 (by decide) mw165 0 rfl rfl rfl ?_
      refine k_iload_n C d_G_slotAt_17 rfl 1 rfl rfl ?_
      have g3 := gd1 h
      replace h := gd2 h
      refine k_aldq (v := Value.ref (au (qq_pi p1.toNatClampNeg))) C d_G_slotAt_18 1 4 rfl rfl (inB_in g3) rfl rfl ?_
      refine k_goto (tgt := 23) C d_G_slotAt_19 (by decide) ?_
      exact k_aret C (Or.inl ⟨_, rfl⟩) (Or.inr ⟨_, rfl⟩) d_G_slotAt_23 (tr1 h (fun t => (fun (o : Option Value) (w : va_W) => o = some (va_rf (Option.map au (t))) ∧ w = w_G_slotAt (cI := cI) (cJ := cJ) (cC := cC) (cZ := cZ) (cR := cR) a_q a_t a_r a_qs a_z a_b au ag ab ar ae ao ac qq_ruleCount qq_walkState qq_pi) (some (Value.ref (au (qq_pi p1.toNatClampNeg)))) (w_G_slotAt (cI := cI) (cJ := cJ) (cC := cC) (cZ := cZ) (cR := cR) a_q a_t a_r a_qs a_z a_b au ag ab ar ae ao ac qq_ruleCount qq_walkState qq_pi)) ⟨rfl, rfl⟩)
theorem d_G_ruleAt_0 : decode b_G_ruleAt 0 = .ok (.iload_n 1, 1) := by decide +kernel
theorem d_G_ruleAt_1 : decode b_G_ruleAt 1 = .ok (.aload_n 0, 1) := by decide +kernel
theorem d_G_ruleAt_2 : decode b_G_ruleAt 2 = .ok (.getfield 48, 3) := by decide +kernel
theorem d_G_ruleAt_5 : decode b_G_ruleAt 5 = .ok (.if_icmp .ge 11, 3) := by decide +kernel
theorem d_G_ruleAt_8 : decode b_G_ruleAt 8 = .ok (.aload_n 0, 1) := by decide +kernel
theorem d_G_ruleAt_9 : decode b_G_ruleAt 9 = .ok (.iload_n 1, 1) := by decide +kernel
theorem d_G_ruleAt_10 : decode b_G_ruleAt 10 = .ok (.invokevirtual 66, 3) := by decide +kernel
theorem d_G_ruleAt_13 : decode b_G_ruleAt 13 = .ok (.goto 4, 3) := by decide +kernel
theorem d_G_ruleAt_16 : decode b_G_ruleAt 16 = .ok (.aconst_null, 1) := by decide +kernel
theorem d_G_ruleAt_17 : decode b_G_ruleAt 17 = .ok (.areturn, 1) := by decide +kernel
abbrev w_G_ruleAt {cI cJ cC cZ cR : ClassId} (a_q a_t a_r a_qs a_z a_b : Nat) (au ag ab ar ae ao ac : Nat → Nat) (qq_ruleCount : Int32) (qq_walkState : Int32) (qq_pi : Nat → Nat) : va_W := [(a_q, .inr (7, [.ref a_t, .ref a_r, .ref a_qs, .ref a_z, .ref a_b, .int qq_ruleCount, .int qq_walkState])), (a_qs, .inl (cR, 6, .inr (.inr (.inr (.inr (fun j => some (au (qq_pi j))))))))]
def f_G_ruleAt (p1 : Int32) (qq_ruleCount : Int32) (qq_pi : Nat → Nat) : Option (Option Nat) := (if qq_ruleCount ≤ p1 then some none else (Option.bind (f_G_slotAt p1 qq_pi) fun r2 => some r2))
set_option maxRecDepth 100000 in
set_option maxHeartbeats 4000000 in
theorem c_G_ruleAt {l : Launch} {D : va_G} {cI cJ cC cZ cR : ClassId} (fu : Nat) (a_q a_t a_r a_qs a_z a_b : Nat) (au ag ab ar ae ao ac : Nat → Nat)  (qq_ruleCount : Int32) (qq_walkState : Int32) (qq_pi : Nat → Nat) (p1 : Int32) (o_r : Option Nat) (h : f_G_ruleAt p1 qq_ruleCount qq_pi = some o_r) : GM l D (tysL cI cJ cC cZ cR) y_G_ruleAt b_G_ruleAt 2 (some (.object "GlobProfile$Rule")) { frames := 1, cells := 0, slots := 0, locals := 21 } [.ref a_q, .int p1] (w_G_ruleAt (cI := cI) (cJ := cJ) (cC := cC) (cZ := cZ) (cR := cR) a_q a_t a_r a_qs a_z a_b au ag ab ar ae ao ac qq_ruleCount qq_walkState qq_pi) (fun (o : Option Value) (w : va_W) => o = some (va_rf (Option.map au o_r)) ∧ w = w_G_ruleAt (cI := cI) (cJ := cJ) (cC := cC) (cZ := cZ) (cR := cR) a_q a_t a_r a_qs a_z a_b au ag ab ar ae ao ac qq_ruleCount qq_walkState qq_pi) := by
  refine GM.of (by decide) (Nat.le_of_ble_eq_true rfl) (lv := [(0, .ref a_q), (1, .int p1)]) rfl ?_
  intro X hX C
  subst hX
  refine k_iload_n C d_G_ruleAt_0 rfl 1 rfl rfl ?_
  refine k_aload_n C d_G_ruleAt_1 rfl 0 rfl rfl ?_
  refine k_getf C d_G_ruleAt_2 hin_G rfl 5 (by decide) mw166 0 rfl rfl rfl ?_
  refine k_icmp_ge (tgt := 16) C d_G_ruleAt_5 (by decide) rfl (fun c1 => ?_) (fun c1 => ?_)
  · replace h := gi_t h c1
    refine k_null C d_G_ruleAt_16 rfl ?_
    exact k_aret C (Or.inl ⟨_, rfl⟩) (Or.inl rfl) d_G_ruleAt_17 (tr1 h (fun t => (fun (o : Option Value) (w : va_W) => o = some (va_rf (Option.map au (t))) ∧ w = w_G_ruleAt (cI := cI) (cJ := cJ) (cC := cC) (cZ := cZ) (cR := cR) a_q a_t a_r a_qs a_z a_b au ag ab ar ae ao ac qq_ruleCount qq_walkState qq_pi) (some (Value.null)) (w_G_ruleAt (cI := cI) (cJ := cJ) (cC := cC) (cZ := cZ) (cR := cR) a_q a_t a_r a_qs a_z a_b au ag ab ar ae ao ac qq_ruleCount qq_walkState qq_pi)) ⟨rfl, rfl⟩)
  · replace h := gi_f h c1
    refine k_aload_n C d_G_ruleAt_8 rfl 0 rfl rfl ?_
    refine k_iload_n C d_G_ruleAt_9 rfl 1 rfl rfl ?_
    obtain ⟨r2, hc3, h⟩ := bd h
    refine k_callVd (As := [.int p1]) (st := []) (st' := [va_rf (Option.map au r2)]) (wn := w_G_ruleAt (cI := cI) (cJ := cJ) (cC := cC) (cZ := cZ) (cR := cR) a_q a_t a_r a_qs a_z a_b au ag ab ar ae ao ac qq_ruleCount qq_walkState qq_pi) C d_G_ruleAt_10 (c_G_slotAt fu a_q a_t a_r a_qs a_z a_b au ag ab ar ae ao ac qq_ruleCount qq_walkState qq_pi p1 r2 hc3) co_G_slotAt cov_G_slotAt mw167 0 rfl rfl (by decide) (by decide) (Nat.le_of_ble_eq_true rfl) rfl [0, 1] [] [0, 1] rfl (by decide +kernel) rfl (by decide +kernel) (by decide +kernel) rfl (by decide +kernel) rfl rfl ?_
    refine k_goto (tgt := 17) C d_G_ruleAt_13 (by decide) ?_
    exact k_aret C (Or.inl ⟨_, rfl⟩) (va_rf_or _) d_G_ruleAt_17 (tr1 h (fun t => (fun (o : Option Value) (w : va_W) => o = some (va_rf (Option.map au (t))) ∧ w = w_G_ruleAt (cI := cI) (cJ := cJ) (cC := cC) (cZ := cZ) (cR := cR) a_q a_t a_r a_qs a_z a_b au ag ab ar ae ao ac qq_ruleCount qq_walkState qq_pi) (some (va_rf (Option.map au r2))) (w_G_ruleAt (cI := cI) (cJ := cJ) (cC := cC) (cZ := cZ) (cR := cR) a_q a_t a_r a_qs a_z a_b au ag ab ar ae ao ac qq_ruleCount qq_walkState qq_pi)) ⟨rfl, rfl⟩)
theorem d_G_pieces_0 : decode b_G_pieces 0 = .ok (.aload_n 0, 1) := by decide +kernel
theorem d_G_pieces_1 : decode b_G_pieces 1 = .ok (.iload_n 1, 1) := by decide +kernel
theorem d_G_pieces_2 : decode b_G_pieces 2 = .ok (.invokevirtual 87, 3) := by decide +kernel
theorem d_G_pieces_5 : decode b_G_pieces 5 = .ok (.astore_n 2, 1) := by decide +kernel
theorem d_G_pieces_6 : decode b_G_pieces 6 = .ok (.aload_n 2, 1) := by decide +kernel
theorem d_G_pieces_7 : decode b_G_pieces 7 = .ok (.ifnonnull 7, 3) := by decide +kernel
theorem d_G_pieces_10 : decode b_G_pieces 10 = .ok (.iconst (-1), 1) := by decide +kernel
theorem d_G_pieces_11 : decode b_G_pieces 11 = .ok (.goto 10, 3) := by decide +kernel
theorem d_G_pieces_14 : decode b_G_pieces 14 = .ok (.aload_n 2, 1) := by decide +kernel
theorem d_G_pieces_15 : decode b_G_pieces 15 = .ok (.getfield 90, 3) := by decide +kernel
theorem d_G_pieces_18 : decode b_G_pieces 18 = .ok (.getfield 77, 3) := by decide +kernel
theorem d_G_pieces_21 : decode b_G_pieces 21 = .ok (.ireturn, 1) := by decide +kernel
abbrev wp_G_pieces {cI cJ cC cZ cR : ClassId} (a_q a_t a_r a_qs a_z a_b : Nat) (au ag ab ar ae ao ac : Nat → Nat) (qq_ruleCount : Int32) (qq_walkState : Int32) (qq_pi : Nat → Nat) : va_W := [(a_q, .inr (7, [.ref a_t, .ref a_r, .ref a_qs, .ref a_z, .ref a_b, .int qq_ruleCount, .int qq_walkState])), (a_qs, .inl (cR, 6, .inr (.inr (.inr (.inr (fun j => some (au (qq_pi j))))))))]
abbrev w_G_pieces {cI cJ cC cZ cR : ClassId} (a_q a_t a_r a_qs a_z a_b : Nat) (au ag ab ar ae ao ac : Nat → Nat) (qq_ruleCount : Int32) (qq_walkState : Int32) (qq_pi : Nat → Nat) (ba_al : Nat → Int32) (ba_pe : Nat → Int32) (ba_pc : Nat → Int32) (ba_de : Nat → Int32) (ba_en : Nat → Int64) (ba_bh : Nat → Nat → Int64) (ba_rd : Nat → Nat → Int64) (ba_eb : Nat → Nat → Int64) (ba_eo : Nat → Nat → Int64) (ba_rc : Nat → Nat → Int32) : va_W := wp_G_pieces (cI := cI) (cJ := cJ) (cC := cC) (cZ := cZ) (cR := cR) a_q a_t a_r a_qs a_z a_b au ag ab ar ae ao ac qq_ruleCount qq_walkState qq_pi ++ blks (cI := cI) (cJ := cJ) au ag ab ar ae ao ac ba_al ba_pe ba_pc ba_de ba_en ba_bh ba_rd ba_eb ba_eo ba_rc
def f_G_pieces (p1 : Int32) (qq_ruleCount : Int32) (qq_pi : Nat → Nat) (ba_pc : Nat → Int32) : Option (Int32) := (Option.bind (f_G_ruleAt p1 qq_ruleCount qq_pi) fun r1 => (Option.elim r1 (some (-1 : Int32)) (fun x3 => (if x3 < 6 then (if x3 < 6 then some (ba_pc x3) else none) else none))))
set_option maxRecDepth 100000 in
set_option maxHeartbeats 4000000 in
theorem c_G_pieces {l : Launch} {D : va_G} {cI cJ cC cZ cR : ClassId} (fu : Nat) (a_q a_t a_r a_qs a_z a_b : Nat) (au ag ab ar ae ao ac : Nat → Nat)  (qq_ruleCount : Int32) (qq_walkState : Int32) (qq_pi : Nat → Nat) (ba_al : Nat → Int32) (ba_pe : Nat → Int32) (ba_pc : Nat → Int32) (ba_de : Nat → Int32) (ba_en : Nat → Int64) (ba_bh : Nat → Nat → Int64) (ba_rd : Nat → Nat → Int64) (ba_eb : Nat → Nat → Int64) (ba_eo : Nat → Nat → Int64) (ba_rc : Nat → Nat → Int32) (p1 : Int32) (o_r : Int32) (h : f_G_pieces p1 qq_ruleCount qq_pi ba_pc = some o_r) : GM l D (tysL cI cJ cC cZ cR) y_G_pieces b_G_pieces 3 (some (.int)) { frames := 2, cells := 0, slots := 0, locals := 42 } [.ref a_q, .int p1] (w_G_pieces (cI := cI) (cJ := cJ) (cC := cC) (cZ := cZ) (cR := cR) a_q a_t a_r a_qs a_z a_b au ag ab ar ae ao ac qq_ruleCount qq_walkState qq_pi ba_al ba_pe ba_pc ba_de ba_en ba_bh ba_rd ba_eb ba_eo ba_rc) (fun (o : Option Value) (w : va_W) => o = some (.int o_r) ∧ w = w_G_pieces (cI := cI) (cJ := cJ) (cC := cC) (cZ := cZ) (cR := cR) a_q a_t a_r a_qs a_z a_b au ag ab ar ae ao ac qq_ruleCount qq_walkState qq_pi ba_al ba_pe ba_pc ba_de ba_en ba_bh ba_rd ba_eb ba_eo ba_rc) := by
  refine GM.of (by decide) (Nat.le_of_ble_eq_true rfl) (lv := [(0, .ref a_q), (1, .int p1)]) rfl ?_
  intro X hX C
  subst hX
  refine k_aload_n C d_G_pieces_0 rfl 0 rfl rfl ?_
  refine k_iload_n C d_G_pieces_1 rfl 1 rfl rfl ?_
  obtain ⟨r1, hc2, h⟩ := bd h
  refine k_callVQd (pre := wp_G_pieces (cI := cI) (cJ := cJ) (cC := cC) (cZ := cZ) (cR := cR) a_q a_t a_r a_qs a_z a_b au ag ab ar ae ao ac qq_ruleCount qq_walkState qq_pi) (suf := blks (cI := cI) (cJ := cJ) au ag ab ar ae ao ac ba_al ba_pe ba_pc ba_de ba_en ba_bh ba_rd ba_eb ba_eo ba_rc) (wn := wp_G_pieces (cI := cI) (cJ := cJ) (cC := cC) (cZ := cZ) (cR := cR) a_q a_t a_r a_qs a_z a_b au ag ab ar ae ao ac qq_ruleCount qq_walkState qq_pi) (As := [.int p1]) (st := []) (st' := [va_rf (Option.map au r1)]) C d_G_pieces_2 (c_G_ruleAt fu a_q a_t a_r a_qs a_z a_b au ag ab ar ae ao ac qq_ruleCount qq_walkState qq_pi p1 r1 hc2) co_G_ruleAt cov_G_ruleAt mw170 0 rfl rfl (by decide) (by decide) (Nat.le_of_ble_eq_true rfl) rfl [0, 1] [] [0, 1] rfl (by decide +kernel) rfl (by decide +kernel) (by decide +kernel) rfl (by decide +kernel) rfl rfl ?_
  refine k_astore_nV (lv' := [(2, va_rf (Option.map au r1)), (0, .ref a_q), (1, .int p1)]) C d_G_pieces_5 rfl (va_rf_or _) (by decide) rfl rfl ?_
  refine k_aload_nV C d_G_pieces_6 rfl (va_rf_or _) 0 rfl rfl ?_
  cases r1 with
  | none =>
    replace h := oe_n h
    refine k_ifnonnullN C d_G_pieces_7 rfl ?_
    refine k_iconst C d_G_pieces_10 (v := (-1 : Int32)) (by decide) rfl ?_
    refine k_goto (tgt := 21) C d_G_pieces_11 (by decide) ?_
    exact k_iret C d_G_pieces_21 (tr1 h (fun t => (fun (o : Option Value) (w : va_W) => o = some (.int (t)) ∧ w = w_G_pieces (cI := cI) (cJ := cJ) (cC := cC) (cZ := cZ) (cR := cR) a_q a_t a_r a_qs a_z a_b au ag ab ar ae ao ac qq_ruleCount qq_walkState qq_pi ba_al ba_pe ba_pc ba_de ba_en ba_bh ba_rd ba_eb ba_eo ba_rc) (some (Value.int (-1 : Int32))) (w_G_pieces (cI := cI) (cJ := cJ) (cC := cC) (cZ := cZ) (cR := cR) a_q a_t a_r a_qs a_z a_b au ag ab ar ae ao ac qq_ruleCount qq_walkState qq_pi ba_al ba_pe ba_pc ba_de ba_en ba_bh ba_rd ba_eb ba_eo ba_rc)) ⟨rfl, rfl⟩)
  | some x3 =>
    replace h := oe_s h
    refine k_ifnonnull (tgt := 14) C d_G_pieces_7 (by decide) ?_
    refine k_aload_n C d_G_pieces_14 rfl 0 rfl rfl ?_
    have g4 := gd1 h
    replace h := gd2 h
    refine k_getN C d_G_pieces_15 hin_Rule rfl 0 (by decide) mw168 (2 + 7 * x3 + 0) (blk_0 rfl g4) rfl rfl ?_
    have g5 := gd1 h
    replace h := gd2 h
    refine k_getN C d_G_pieces_18 hin_Glob rfl 5 (by decide) mw169 (2 + 7 * x3 + 1) (blk_1 rfl g5) rfl rfl ?_
    exact k_iret C d_G_pieces_21 (tr1 h (fun t => (fun (o : Option Value) (w : va_W) => o = some (.int (t)) ∧ w = w_G_pieces (cI := cI) (cJ := cJ) (cC := cC) (cZ := cZ) (cR := cR) a_q a_t a_r a_qs a_z a_b au ag ab ar ae ao ac qq_ruleCount qq_walkState qq_pi ba_al ba_pe ba_pc ba_de ba_en ba_bh ba_rd ba_eb ba_eo ba_rc) (some (Value.int (ba_pc x3))) (w_G_pieces (cI := cI) (cJ := cJ) (cC := cC) (cZ := cZ) (cR := cR) a_q a_t a_r a_qs a_z a_b au ag ab ar ae ao ac qq_ruleCount qq_walkState qq_pi ba_al ba_pe ba_pc ba_de ba_en ba_bh ba_rd ba_eb ba_eo ba_rc)) ⟨rfl, rfl⟩)
