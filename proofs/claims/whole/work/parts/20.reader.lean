theorem d_Reader_isElement_0 : decode b_Reader_isElement 0 = .ok (.iload_n 0, 1) := by decide +kernel
theorem d_Reader_isElement_1 : decode b_Reader_isElement 1 = .ok (.ifCond .eq 37, 3) := by decide +kernel
theorem d_Reader_isElement_4 : decode b_Reader_isElement 4 = .ok (.iload_n 0, 1) := by decide +kernel
theorem d_Reader_isElement_5 : decode b_Reader_isElement 5 = .ok (.bipush 91, 2) := by decide +kernel
theorem d_Reader_isElement_7 : decode b_Reader_isElement 7 = .ok (.if_icmp .eq 31, 3) := by decide +kernel
theorem d_Reader_isElement_10 : decode b_Reader_isElement 10 = .ok (.iload_n 0, 1) := by decide +kernel
theorem d_Reader_isElement_11 : decode b_Reader_isElement 11 = .ok (.bipush 93, 2) := by decide +kernel
theorem d_Reader_isElement_13 : decode b_Reader_isElement 13 = .ok (.if_icmp .eq 25, 3) := by decide +kernel
theorem d_Reader_isElement_16 : decode b_Reader_isElement 16 = .ok (.iload_n 0, 1) := by decide +kernel
theorem d_Reader_isElement_17 : decode b_Reader_isElement 17 = .ok (.bipush 94, 2) := by decide +kernel
theorem d_Reader_isElement_19 : decode b_Reader_isElement 19 = .ok (.if_icmp .eq 19, 3) := by decide +kernel
theorem d_Reader_isElement_22 : decode b_Reader_isElement 22 = .ok (.iload_n 0, 1) := by decide +kernel
theorem d_Reader_isElement_23 : decode b_Reader_isElement 23 = .ok (.bipush 45, 2) := by decide +kernel
theorem d_Reader_isElement_25 : decode b_Reader_isElement 25 = .ok (.if_icmp .eq 13, 3) := by decide +kernel
theorem d_Reader_isElement_28 : decode b_Reader_isElement 28 = .ok (.iload_n 0, 1) := by decide +kernel
theorem d_Reader_isElement_29 : decode b_Reader_isElement 29 = .ok (.bipush 92, 2) := by decide +kernel
theorem d_Reader_isElement_31 : decode b_Reader_isElement 31 = .ok (.if_icmp .eq 7, 3) := by decide +kernel
theorem d_Reader_isElement_34 : decode b_Reader_isElement 34 = .ok (.iconst 1, 1) := by decide +kernel
theorem d_Reader_isElement_35 : decode b_Reader_isElement 35 = .ok (.goto 4, 3) := by decide +kernel
theorem d_Reader_isElement_38 : decode b_Reader_isElement 38 = .ok (.iconst 0, 1) := by decide +kernel
theorem d_Reader_isElement_39 : decode b_Reader_isElement 39 = .ok (.ireturn, 1) := by decide +kernel
abbrev w_Reader_isElement : va_W := []
def f_Reader_isElement (p0 : Int32) : Option (Int32) := (if p0 = 0 then (if ((0 : Int32) = 0 ∨ (0 : Int32) = 1) then some (0 : Int32) else none) else (if p0 = (91 : Int32) then (if ((0 : Int32) = 0 ∨ (0 : Int32) = 1) then some (0 : Int32) else none) else (if p0 = (93 : Int32) then (if ((0 : Int32) = 0 ∨ (0 : Int32) = 1) then some (0 : Int32) else none) else (if p0 = (94 : Int32) then (if ((0 : Int32) = 0 ∨ (0 : Int32) = 1) then some (0 : Int32) else none) else (if p0 = (45 : Int32) then (if ((0 : Int32) = 0 ∨ (0 : Int32) = 1) then some (0 : Int32) else none) else (if p0 = (92 : Int32) then (if ((0 : Int32) = 0 ∨ (0 : Int32) = 1) then some (0 : Int32) else none) else (if ((1 : Int32) = 0 ∨ (1 : Int32) = 1) then some (1 : Int32) else none)))))))
set_option maxRecDepth 100000 in
set_option maxHeartbeats 4000000 in
theorem c_Reader_isElement {l : Launch} {D : va_G} {cI cJ cC cZ cR : ClassId} (fu : Nat)     (p0 : Int32) (o_r : Int32) (h : f_Reader_isElement p0 = some o_r) : GM l D (tysL cI cJ cC cZ cR) y_Reader_isElement b_Reader_isElement 1 (some (.boolean)) { frames := 0, cells := 0, slots := 0, locals := 0 } [.int p0] (w_Reader_isElement) (fun (o : Option Value) (w : va_W) => o = some (.int o_r) ∧ w = w_Reader_isElement) := by
  refine GM.of (by decide) (Nat.le_of_ble_eq_true rfl) (lv := [(0, .int p0)]) rfl ?_
  intro X hX C
  subst hX
  refine k_iload_n C d_Reader_isElement_0 rfl 0 rfl rfl ?_
  refine k_if_eq (tgt := 38) C d_Reader_isElement_1 (by decide) rfl (fun c1 => ?_) (fun c1 => ?_)
  · replace h := gi_t h c1
    refine k_iconst C d_Reader_isElement_38 (v := (0 : Int32)) (by decide) rfl ?_
    have g2 := gd1 h
    replace h := gd2 h
    exact k_zret C d_Reader_isElement_39 (nz_bool g2) (tr1 h (fun t => (fun (o : Option Value) (w : va_W) => o = some (.int (t)) ∧ w = w_Reader_isElement) (some (Value.int (0 : Int32))) (w_Reader_isElement)) ⟨rfl, rfl⟩)
  · replace h := gi_f h c1
    refine k_iload_n C d_Reader_isElement_4 rfl 0 rfl rfl ?_
    refine k_bipush C d_Reader_isElement_5 (v := (91 : Int32)) (by decide) rfl ?_
    refine k_icmp_eq (tgt := 38) C d_Reader_isElement_7 (by decide) rfl (fun c3 => ?_) (fun c3 => ?_)
    · replace h := gi_t h c3
      refine k_iconst C d_Reader_isElement_38 (v := (0 : Int32)) (by decide) rfl ?_
      have g4 := gd1 h
      replace h := gd2 h
      exact k_zret C d_Reader_isElement_39 (nz_bool g4) (tr1 h (fun t => (fun (o : Option Value) (w : va_W) => o = some (.int (t)) ∧ w = w_Reader_isElement) (some (Value.int (0 : Int32))) (w_Reader_isElement)) ⟨rfl, rfl⟩)
    · replace h := gi_f h c3
      refine k_iload_n C d_Reader_isElement_10 rfl 0 rfl rfl ?_
      refine k_bipush C d_Reader_isElement_11 (v := (93 : Int32)) (by decide) rfl ?_
      refine k_icmp_eq (tgt := 38) C d_Reader_isElement_13 (by decide) rfl (fun c5 => ?_) (fun c5 => ?_)
      · replace h := gi_t h c5
        refine k_iconst C d_Reader_isElement_38 (v := (0 : Int32)) (by decide) rfl ?_
        have g6 := gd1 h
        replace h := gd2 h
        exact k_zret C d_Reader_isElement_39 (nz_bool g6) (tr1 h (fun t => (fun (o : Option Value) (w : va_W) => o = some (.int (t)) ∧ w = w_Reader_isElement) (some (Value.int (0 : Int32))) (w_Reader_isElement)) ⟨rfl, rfl⟩)
      · replace h := gi_f h c5
        refine k_iload_n C d_Reader_isElement_16 rfl 0 rfl rfl ?_
        refine k_bipush C d_Reader_isElement_17 (v := (94 : Int32)) (by decide) rfl ?_
        refine k_icmp_eq (tgt := 38) C d_Reader_isElement_19 (by decide) rfl (fun c7 => ?_) (fun c7 => ?_)
        · replace h := gi_t h c7
          refine k_iconst C d_Reader_isElement_38 (v := (0 : Int32)) (by decide) rfl ?_
          have g8 := gd1 h
          replace h := gd2 h
          exact k_zret C d_Reader_isElement_39 (nz_bool g8) (tr1 h (fun t => (fun (o : Option Value) (w : va_W) => o = some (.int (t)) ∧ w = w_Reader_isElement) (some (Value.int (0 : Int32))) (w_Reader_isElement)) ⟨rfl, rfl⟩)
        · replace h := gi_f h c7
          refine k_iload_n C d_Reader_isElement_22 rfl 0 rfl rfl ?_
          refine k_bipush C d_Reader_isElement_23 (v := (45 : Int32)) (by decide) rfl ?_
          refine k_icmp_eq (tgt := 38) C d_Reader_isElement_25 (by decide) rfl (fun c9 => ?_) (fun c9 => ?_)
          · replace h := gi_t h c9
            refine k_iconst C d_Reader_isElement_38 (v := (0 : Int32)) (by decide) rfl ?_
            have g10 := gd1 h
            replace h := gd2 h
            exact k_zret C d_Reader_isElement_39 (nz_bool g10) (tr1 h (fun t => (fun (o : Option Value) (w : va_W) => o = some (.int (t)) ∧ w = w_Reader_isElement) (some (Value.int (0 : Int32))) (w_Reader_isElement)) ⟨rfl, rfl⟩)
          · replace h := gi_f h c9
            refine k_iload_n C d_Reader_isElement_28 rfl 0 rfl rfl ?_
            refine k_bipush C d_Reader_isElement_29 (v := (92 : Int32)) (by decide) rfl ?_
            refine k_icmp_eq (tgt := 38) C d_Reader_isElement_31 (by decide) rfl (fun c11 => ?_) (fun c11 => ?_)
            · replace h := gi_t h c11
              refine k_iconst C d_Reader_isElement_38 (v := (0 : Int32)) (by decide) rfl ?_
              have g12 := gd1 h
              replace h := gd2 h
              exact k_zret C d_Reader_isElement_39 (nz_bool g12) (tr1 h (fun t => (fun (o : Option Value) (w : va_W) => o = some (.int (t)) ∧ w = w_Reader_isElement) (some (Value.int (0 : Int32))) (w_Reader_isElement)) ⟨rfl, rfl⟩)
            · replace h := gi_f h c11
              refine k_iconst C d_Reader_isElement_34 (v := (1 : Int32)) (by decide) rfl ?_
              refine k_goto (tgt := 39) C d_Reader_isElement_35 (by decide) ?_
              have g13 := gd1 h
              replace h := gd2 h
              exact k_zret C d_Reader_isElement_39 (nz_bool g13) (tr1 h (fun t => (fun (o : Option Value) (w : va_W) => o = some (.int (t)) ∧ w = w_Reader_isElement) (some (Value.int (1 : Int32))) (w_Reader_isElement)) ⟨rfl, rfl⟩)
theorem d_Reader_pass_0 : decode b_Reader_pass 0 = .ok (.iload_n 1, 1) := by decide +kernel
theorem d_Reader_pass_1 : decode b_Reader_pass 1 = .ok (.ifCond .eq 16, 3) := by decide +kernel
theorem d_Reader_pass_4 : decode b_Reader_pass 4 = .ok (.aload_n 0, 1) := by decide +kernel
theorem d_Reader_pass_5 : decode b_Reader_pass 5 = .ok (.dup, 1) := by decide +kernel
theorem d_Reader_pass_6 : decode b_Reader_pass 6 = .ok (.getfield 22, 3) := by decide +kernel
theorem d_Reader_pass_9 : decode b_Reader_pass 9 = .ok (.iconst 1, 1) := by decide +kernel
theorem d_Reader_pass_10 : decode b_Reader_pass 10 = .ok (.iadd, 1) := by decide +kernel
theorem d_Reader_pass_11 : decode b_Reader_pass 11 = .ok (.putfield 22, 3) := by decide +kernel
theorem d_Reader_pass_14 : decode b_Reader_pass 14 = .ok (.goto 11, 3) := by decide +kernel
theorem d_Reader_pass_17 : decode b_Reader_pass 17 = .ok (.aload_n 0, 1) := by decide +kernel
theorem d_Reader_pass_18 : decode b_Reader_pass 18 = .ok (.aload_n 0, 1) := by decide +kernel
theorem d_Reader_pass_19 : decode b_Reader_pass 19 = .ok (.getfield 22, 3) := by decide +kernel
theorem d_Reader_pass_22 : decode b_Reader_pass 22 = .ok (.putfield 26, 3) := by decide +kernel
theorem d_Reader_pass_25 : decode b_Reader_pass 25 = .ok (.return_, 1) := by decide +kernel
abbrev w_Reader_pass {cI cJ cC cZ cR : ClassId} (a_r a_t a_g : Nat) (rr_at : Int32) (rr_fault : Int32) : va_W := [(a_r, .inr (1, [.ref a_t, .ref a_g, .int rr_at, .int rr_fault]))]
def f_Reader_pass (p1 : Int32) (rr_at : Int32) (rr_fault : Int32) : Option (Int32 × Int32) := (if p1 = 0 then some (rr_at, rr_at) else some ((rr_at + (1 : Int32)), rr_fault))
set_option maxRecDepth 100000 in
set_option maxHeartbeats 4000000 in
theorem c_Reader_pass {l : Launch} {D : va_G} {cI cJ cC cZ cR : ClassId} (fu : Nat) (a_r a_t a_g : Nat)   (rr_at : Int32) (rr_fault : Int32) (p1 : Int32) (o_rr_at : Int32) (o_rr_fault : Int32) (h : f_Reader_pass p1 rr_at rr_fault = some (o_rr_at, o_rr_fault)) : GM l D (tysL cI cJ cC cZ cR) y_Reader_pass b_Reader_pass 2 none { frames := 0, cells := 0, slots := 0, locals := 0 } [.ref a_r, .int p1] (w_Reader_pass (cI := cI) (cJ := cJ) (cC := cC) (cZ := cZ) (cR := cR) a_r a_t a_g rr_at rr_fault) (fun (o : Option Value) (w : va_W) => o = none ∧ w = w_Reader_pass (cI := cI) (cJ := cJ) (cC := cC) (cZ := cZ) (cR := cR) a_r a_t a_g o_rr_at o_rr_fault) := by
  refine GM.of (by decide) (Nat.le_of_ble_eq_true rfl) (lv := [(0, .ref a_r), (1, .int p1)]) rfl ?_
  intro X hX C
  subst hX
  refine k_iload_n C d_Reader_pass_0 rfl 1 rfl rfl ?_
  refine k_if_eq (tgt := 17) C d_Reader_pass_1 (by decide) rfl (fun c1 => ?_) (fun c1 => ?_)
  · replace h := gi_t h c1
    refine k_aload_n C d_Reader_pass_17 rfl 0 rfl rfl ?_
    refine k_aload_n C d_Reader_pass_18 rfl 0 rfl rfl ?_
    refine k_getf C d_Reader_pass_19 hin_Reader rfl 2 (by decide) mw80 0 rfl rfl rfl ?_
    refine k_putf (ws' := w_Reader_pass (cI := cI) (cJ := cJ) (cC := cC) (cZ := cZ) (cR := cR) a_r a_t a_g rr_at rr_at) C d_Reader_pass_22 hin_Reader hty_Reader hnn_Reader rfl 3 (by decide) mw81 rfl 0 rfl rfl rfl (Nat.le_of_ble_eq_true rfl) rfl rfl ?_
    exact k_vret C d_Reader_pass_25 (tr1 h (fun t => (fun (o : Option Value) (w : va_W) => o = none ∧ w = w_Reader_pass (cI := cI) (cJ := cJ) (cC := cC) (cZ := cZ) (cR := cR) a_r a_t a_g (t.1) (t.2)) none (w_Reader_pass (cI := cI) (cJ := cJ) (cC := cC) (cZ := cZ) (cR := cR) a_r a_t a_g rr_at rr_at)) ⟨rfl, rfl⟩)
  · replace h := gi_f h c1
    refine k_aload_n C d_Reader_pass_4 rfl 0 rfl rfl ?_
    refine k_dup C d_Reader_pass_5 rfl rfl ?_
    refine k_getf C d_Reader_pass_6 hin_Reader rfl 2 (by decide) mw80 0 rfl rfl rfl ?_
    refine k_iconst C d_Reader_pass_9 (v := (1 : Int32)) (by decide) rfl ?_
    refine k_iadd C d_Reader_pass_10 rfl ?_
    refine k_putf (ws' := w_Reader_pass (cI := cI) (cJ := cJ) (cC := cC) (cZ := cZ) (cR := cR) a_r a_t a_g (rr_at + (1 : Int32)) rr_fault) C d_Reader_pass_11 hin_Reader hty_Reader hnn_Reader rfl 2 (by decide) mw80 rfl 0 rfl rfl rfl (Nat.le_of_ble_eq_true rfl) rfl rfl ?_
    refine k_goto (tgt := 25) C d_Reader_pass_14 (by decide) ?_
    exact k_vret C d_Reader_pass_25 (tr1 h (fun t => (fun (o : Option Value) (w : va_W) => o = none ∧ w = w_Reader_pass (cI := cI) (cJ := cJ) (cC := cC) (cZ := cZ) (cR := cR) a_r a_t a_g (t.1) (t.2)) none (w_Reader_pass (cI := cI) (cJ := cJ) (cC := cC) (cZ := cZ) (cR := cR) a_r a_t a_g (rr_at + (1 : Int32)) rr_fault)) ⟨rfl, rfl⟩)
theorem d_Reader_setReads_0 : decode b_Reader_setReads 0 = .ok (.aload_n 0, 1) := by decide +kernel
theorem d_Reader_setReads_1 : decode b_Reader_setReads 1 = .ok (.getfield 12, 3) := by decide +kernel
theorem d_Reader_setReads_4 : decode b_Reader_setReads 4 = .ok (.iload_n 1, 1) := by decide +kernel
theorem d_Reader_setReads_5 : decode b_Reader_setReads 5 = .ok (.invokestatic 93, 3) := by decide +kernel
theorem d_Reader_setReads_8 : decode b_Reader_setReads 8 = .ok (.iload_n 2, 1) := by decide +kernel
theorem d_Reader_setReads_9 : decode b_Reader_setReads 9 = .ok (.invokestatic 93, 3) := by decide +kernel
theorem d_Reader_setReads_12 : decode b_Reader_setReads 12 = .ok (.iload_n 3, 1) := by decide +kernel
theorem d_Reader_setReads_13 : decode b_Reader_setReads 13 = .ok (.invokevirtual 90, 3) := by decide +kernel
theorem d_Reader_setReads_16 : decode b_Reader_setReads 16 = .ok (.return_, 1) := by decide +kernel
abbrev w_Reader_setReads {cI cJ cC cZ cR : ClassId} (a_r a_t a_g a_gb a_gr a_ge a_go a_gc : Nat) (rr_at : Int32) (rr_fault : Int32) (gg_pieceCount : Int32) (gg_depth : Int32) (gg_ends : Int64) (gg_readersOf : Nat → Int64) : va_W := [(a_r, .inr (1, [.ref a_t, .ref a_g, .int rr_at, .int rr_fault])), (a_g, .inr (2, [.ref a_gb, .ref a_gr, .ref a_ge, .ref a_go, .ref a_gc, .int gg_pieceCount, .int gg_depth, .long gg_ends])), (a_gr, .inl (cJ, 95, .inr (.inl gg_readersOf)))]
def f_Reader_setReads (fu : Nat) (p1 : Int32) (p2 : Int32) (p3 : Int32) (gg_pieceCount : Int32) (gg_readersOf : Nat → Int64) : Option ((Nat → Int64)) := (Option.bind (f_G_symbolOf p1) fun r1 => (Option.bind (f_G_symbolOf p2) fun r3 => (Option.bind (f_Glob_setReads fu r1 r3 p3 gg_pieceCount gg_readersOf) fun ygg_readersOf_5 => some ygg_readersOf_5)))
set_option maxRecDepth 100000 in
set_option maxHeartbeats 4000000 in
theorem c_Reader_setReads {l : Launch} {D : va_G} {cI cJ cC cZ cR : ClassId} (fu : Nat) (a_r a_t a_g a_gb a_gr a_ge a_go a_gc : Nat)   (rr_at : Int32) (rr_fault : Int32) (gg_pieceCount : Int32) (gg_depth : Int32) (gg_ends : Int64) (gg_readersOf : Nat → Int64) (p1 : Int32) (p2 : Int32) (p3 : Int32) (o_gg_readersOf : Nat → Int64) (h : f_Reader_setReads fu p1 p2 p3 gg_pieceCount gg_readersOf = some o_gg_readersOf) : GM l D (tysL cI cJ cC cZ cR) y_Reader_setReads b_Reader_setReads 4 none { frames := 1, cells := 0, slots := 0, locals := 26 } [.ref a_r, .int p1, .int p2, .int p3] (w_Reader_setReads (cI := cI) (cJ := cJ) (cC := cC) (cZ := cZ) (cR := cR) a_r a_t a_g a_gb a_gr a_ge a_go a_gc rr_at rr_fault gg_pieceCount gg_depth gg_ends gg_readersOf) (fun (o : Option Value) (w : va_W) => o = none ∧ w = w_Reader_setReads (cI := cI) (cJ := cJ) (cC := cC) (cZ := cZ) (cR := cR) a_r a_t a_g a_gb a_gr a_ge a_go a_gc rr_at rr_fault gg_pieceCount gg_depth gg_ends o_gg_readersOf) := by
  refine GM.of (by decide) (Nat.le_of_ble_eq_true rfl) (lv := [(0, .ref a_r), (1, .int p1), (2, .int p2), (3, .int p3)]) rfl ?_
  intro X hX C
  subst hX
  refine k_aload_n C d_Reader_setReads_0 rfl 0 rfl rfl ?_
  refine k_getf C d_Reader_setReads_1 hin_Reader rfl 1 (by decide) mw82 0 rfl rfl rfl ?_
  refine k_iload_n C d_Reader_setReads_4 rfl 1 rfl rfl ?_
  obtain ⟨r1, hc2, h⟩ := bd h
  refine k_callSNd (As := [.int p1]) (st := [.ref a_g]) (st' := [.int r1, .ref a_g]) (wn := w_Reader_setReads (cI := cI) (cJ := cJ) (cC := cC) (cZ := cZ) (cR := cR) a_r a_t a_g a_gb a_gr a_ge a_go a_gc rr_at rr_fault gg_pieceCount gg_depth gg_ends gg_readersOf) C d_Reader_setReads_5 (c_G_symbolOf fu p1 r1 hc2) co_G_symbolOf cos_G_symbolOf mw83 (by decide) (by decide) (Nat.le_of_ble_eq_true rfl) rfl [] [0, 1, 2] [0, 1, 2] rfl (by decide +kernel) rfl (by decide +kernel) (by decide +kernel) rfl (by decide +kernel) rfl rfl ?_
  refine k_iload_n C d_Reader_setReads_8 rfl 2 rfl rfl ?_
  obtain ⟨r3, hc4, h⟩ := bd h
  refine k_callSNd (As := [.int p2]) (st := [.int r1, .ref a_g]) (st' := [.int r3, .int r1, .ref a_g]) (wn := w_Reader_setReads (cI := cI) (cJ := cJ) (cC := cC) (cZ := cZ) (cR := cR) a_r a_t a_g a_gb a_gr a_ge a_go a_gc rr_at rr_fault gg_pieceCount gg_depth gg_ends gg_readersOf) C d_Reader_setReads_9 (c_G_symbolOf fu p2 r3 hc4) co_G_symbolOf cos_G_symbolOf mw83 (by decide) (by decide) (Nat.le_of_ble_eq_true rfl) rfl [] [0, 1, 2] [0, 1, 2] rfl (by decide +kernel) rfl (by decide +kernel) (by decide +kernel) rfl (by decide +kernel) rfl rfl ?_
  refine k_iload_n C d_Reader_setReads_12 rfl 3 rfl rfl ?_
  obtain ⟨ygg_readersOf_5, hc6, h⟩ := bd h
  refine k_callVd (As := [.int r1, .int r3, .int p3]) (st := []) (st' := []) (wn := w_Reader_setReads (cI := cI) (cJ := cJ) (cC := cC) (cZ := cZ) (cR := cR) a_r a_t a_g a_gb a_gr a_ge a_go a_gc rr_at rr_fault gg_pieceCount gg_depth gg_ends ygg_readersOf_5) C d_Reader_setReads_13 (c_Glob_setReads fu a_g a_gb a_gr a_ge a_go a_gc gg_pieceCount gg_depth gg_ends gg_readersOf r1 r3 p3 ygg_readersOf_5 hc6) co_Glob_setReads cov_Glob_setReads mw84 1 rfl rfl (by decide) (by decide) (Nat.le_of_ble_eq_true rfl) rfl [1, 2] [0] [0, 1, 2] rfl (by decide +kernel) rfl (by decide +kernel) (by decide +kernel) rfl (by decide +kernel) rfl rfl ?_
  exact k_vret C d_Reader_setReads_16 (tr1 h (fun t => (fun (o : Option Value) (w : va_W) => o = none ∧ w = w_Reader_setReads (cI := cI) (cJ := cJ) (cC := cC) (cZ := cZ) (cR := cR) a_r a_t a_g a_gb a_gr a_ge a_go a_gc rr_at rr_fault gg_pieceCount gg_depth gg_ends (t)) none (w_Reader_setReads (cI := cI) (cJ := cJ) (cC := cC) (cZ := cZ) (cR := cR) a_r a_t a_g a_gb a_gr a_ge a_go a_gc rr_at rr_fault gg_pieceCount gg_depth gg_ends ygg_readersOf_5)) ⟨rfl, rfl⟩)
theorem d_Reader_setReadsAll_0 : decode b_Reader_setReadsAll 0 = .ok (.aload_n 0, 1) := by decide +kernel
theorem d_Reader_setReadsAll_1 : decode b_Reader_setReadsAll 1 = .ok (.getfield 12, 3) := by decide +kernel
theorem d_Reader_setReadsAll_4 : decode b_Reader_setReadsAll 4 = .ok (.iconst 0, 1) := by decide +kernel
theorem d_Reader_setReadsAll_5 : decode b_Reader_setReadsAll 5 = .ok (.bipush 94, 2) := by decide +kernel
theorem d_Reader_setReadsAll_7 : decode b_Reader_setReadsAll 7 = .ok (.iconst 1, 1) := by decide +kernel
theorem d_Reader_setReadsAll_8 : decode b_Reader_setReadsAll 8 = .ok (.invokevirtual 90, 3) := by decide +kernel
theorem d_Reader_setReadsAll_11 : decode b_Reader_setReadsAll 11 = .ok (.return_, 1) := by decide +kernel
abbrev w_Reader_setReadsAll {cI cJ cC cZ cR : ClassId} (a_r a_t a_g a_gb a_gr a_ge a_go a_gc : Nat) (rr_at : Int32) (rr_fault : Int32) (gg_pieceCount : Int32) (gg_depth : Int32) (gg_ends : Int64) (gg_readersOf : Nat → Int64) : va_W := [(a_r, .inr (1, [.ref a_t, .ref a_g, .int rr_at, .int rr_fault])), (a_g, .inr (2, [.ref a_gb, .ref a_gr, .ref a_ge, .ref a_go, .ref a_gc, .int gg_pieceCount, .int gg_depth, .long gg_ends])), (a_gr, .inl (cJ, 95, .inr (.inl gg_readersOf)))]
def f_Reader_setReadsAll (fu : Nat) (gg_pieceCount : Int32) (gg_readersOf : Nat → Int64) : Option ((Nat → Int64)) := (Option.bind (f_Glob_setReads fu (0 : Int32) (94 : Int32) (1 : Int32) gg_pieceCount gg_readersOf) fun ygg_readersOf_1 => some ygg_readersOf_1)
set_option maxRecDepth 100000 in
set_option maxHeartbeats 4000000 in
theorem c_Reader_setReadsAll {l : Launch} {D : va_G} {cI cJ cC cZ cR : ClassId} (fu : Nat) (a_r a_t a_g a_gb a_gr a_ge a_go a_gc : Nat)   (rr_at : Int32) (rr_fault : Int32) (gg_pieceCount : Int32) (gg_depth : Int32) (gg_ends : Int64) (gg_readersOf : Nat → Int64)  (o_gg_readersOf : Nat → Int64) (h : f_Reader_setReadsAll fu gg_pieceCount gg_readersOf = some o_gg_readersOf) : GM l D (tysL cI cJ cC cZ cR) y_Reader_setReadsAll b_Reader_setReadsAll 1 none { frames := 1, cells := 0, slots := 0, locals := 26 } [.ref a_r] (w_Reader_setReadsAll (cI := cI) (cJ := cJ) (cC := cC) (cZ := cZ) (cR := cR) a_r a_t a_g a_gb a_gr a_ge a_go a_gc rr_at rr_fault gg_pieceCount gg_depth gg_ends gg_readersOf) (fun (o : Option Value) (w : va_W) => o = none ∧ w = w_Reader_setReadsAll (cI := cI) (cJ := cJ) (cC := cC) (cZ := cZ) (cR := cR) a_r a_t a_g a_gb a_gr a_ge a_go a_gc rr_at rr_fault gg_pieceCount gg_depth gg_ends o_gg_readersOf) := by
  refine GM.of (by decide) (Nat.le_of_ble_eq_true rfl) (lv := [(0, .ref a_r)]) rfl ?_
  intro X hX C
  subst hX
  refine k_aload_n C d_Reader_setReadsAll_0 rfl 0 rfl rfl ?_
  refine k_getf C d_Reader_setReadsAll_1 hin_Reader rfl 1 (by decide) mw82 0 rfl rfl rfl ?_
  refine k_iconst C d_Reader_setReadsAll_4 (v := (0 : Int32)) (by decide) rfl ?_
  refine k_bipush C d_Reader_setReadsAll_5 (v := (94 : Int32)) (by decide) rfl ?_
  refine k_iconst C d_Reader_setReadsAll_7 (v := (1 : Int32)) (by decide) rfl ?_
  obtain ⟨ygg_readersOf_1, hc2, h⟩ := bd h
  refine k_callVd (As := [.int (0 : Int32), .int (94 : Int32), .int (1 : Int32)]) (st := []) (st' := []) (wn := w_Reader_setReadsAll (cI := cI) (cJ := cJ) (cC := cC) (cZ := cZ) (cR := cR) a_r a_t a_g a_gb a_gr a_ge a_go a_gc rr_at rr_fault gg_pieceCount gg_depth gg_ends ygg_readersOf_1) C d_Reader_setReadsAll_8 (c_Glob_setReads fu a_g a_gb a_gr a_ge a_go a_gc gg_pieceCount gg_depth gg_ends gg_readersOf (0 : Int32) (94 : Int32) (1 : Int32) ygg_readersOf_1 hc2) co_Glob_setReads cov_Glob_setReads mw84 1 rfl rfl (by decide) (by decide) (Nat.le_of_ble_eq_true rfl) rfl [1, 2] [0] [0, 1, 2] rfl (by decide +kernel) rfl (by decide +kernel) (by decide +kernel) rfl (by decide +kernel) rfl rfl ?_
  exact k_vret C d_Reader_setReadsAll_11 (tr1 h (fun t => (fun (o : Option Value) (w : va_W) => o = none ∧ w = w_Reader_setReadsAll (cI := cI) (cJ := cJ) (cC := cC) (cZ := cZ) (cR := cR) a_r a_t a_g a_gb a_gr a_ge a_go a_gc rr_at rr_fault gg_pieceCount gg_depth gg_ends (t)) none (w_Reader_setReadsAll (cI := cI) (cJ := cJ) (cC := cC) (cZ := cZ) (cR := cR) a_r a_t a_g a_gb a_gr a_ge a_go a_gc rr_at rr_fault gg_pieceCount gg_depth gg_ends ygg_readersOf_1)) ⟨rfl, rfl⟩)
theorem d_Reader_addAnyButSlash_0 : decode b_Reader_addAnyButSlash 0 = .ok (.aload_n 0, 1) := by decide +kernel
theorem d_Reader_addAnyButSlash_1 : decode b_Reader_addAnyButSlash 1 = .ok (.getfield 12, 3) := by decide +kernel
theorem d_Reader_addAnyButSlash_4 : decode b_Reader_addAnyButSlash 4 = .ok (.iload_n 1, 1) := by decide +kernel
theorem d_Reader_addAnyButSlash_5 : decode b_Reader_addAnyButSlash 5 = .ok (.invokevirtual 73, 3) := by decide +kernel
theorem d_Reader_addAnyButSlash_8 : decode b_Reader_addAnyButSlash 8 = .ok (.aload_n 0, 1) := by decide +kernel
theorem d_Reader_addAnyButSlash_9 : decode b_Reader_addAnyButSlash 9 = .ok (.invokevirtual 80, 3) := by decide +kernel
theorem d_Reader_addAnyButSlash_12 : decode b_Reader_addAnyButSlash 12 = .ok (.aload_n 0, 1) := by decide +kernel
theorem d_Reader_addAnyButSlash_13 : decode b_Reader_addAnyButSlash 13 = .ok (.bipush 47, 2) := by decide +kernel
theorem d_Reader_addAnyButSlash_15 : decode b_Reader_addAnyButSlash 15 = .ok (.bipush 47, 2) := by decide +kernel
theorem d_Reader_addAnyButSlash_17 : decode b_Reader_addAnyButSlash 17 = .ok (.iconst 0, 1) := by decide +kernel
theorem d_Reader_addAnyButSlash_18 : decode b_Reader_addAnyButSlash 18 = .ok (.invokevirtual 76, 3) := by decide +kernel
theorem d_Reader_addAnyButSlash_21 : decode b_Reader_addAnyButSlash 21 = .ok (.return_, 1) := by decide +kernel
abbrev w_Reader_addAnyButSlash {cI cJ cC cZ cR : ClassId} (a_r a_t a_g a_gb a_gr a_ge a_go a_gc : Nat) (rr_at : Int32) (rr_fault : Int32) (gg_pieceCount : Int32) (gg_depth : Int32) (gg_ends : Int64) (gg_behind : Nat → Int64) (gg_readersOf : Nat → Int64) : va_W := [(a_r, .inr (1, [.ref a_t, .ref a_g, .int rr_at, .int rr_fault])), (a_g, .inr (2, [.ref a_gb, .ref a_gr, .ref a_ge, .ref a_go, .ref a_gc, .int gg_pieceCount, .int gg_depth, .long gg_ends])), (a_gb, .inl (cJ, 41, .inr (.inl gg_behind))), (a_gr, .inl (cJ, 95, .inr (.inl gg_readersOf)))]
def f_Reader_addAnyButSlash (fu : Nat) (p1 : Int32) (gg_pieceCount : Int32) (gg_ends : Int64) (gg_behind : Nat → Int64) (gg_readersOf : Nat → Int64) : Option (Int32 × Int64 × (Nat → Int64) × (Nat → Int64)) := (Option.bind (f_Glob_addPiece fu p1 gg_pieceCount gg_ends gg_behind) fun (ygg_pieceCount_1, ygg_ends_2, ygg_behind_3) => (Option.bind (f_Reader_setReadsAll fu ygg_pieceCount_1 gg_readersOf) fun ygg_readersOf_5 => (Option.bind (f_Reader_setReads fu (47 : Int32) (47 : Int32) (0 : Int32) ygg_pieceCount_1 ygg_readersOf_5) fun ygg_readersOf_7 => some (ygg_pieceCount_1, ygg_ends_2, ygg_behind_3, ygg_readersOf_7))))
set_option maxRecDepth 100000 in
set_option maxHeartbeats 4000000 in
theorem c_Reader_addAnyButSlash {l : Launch} {D : va_G} {cI cJ cC cZ cR : ClassId} (fu : Nat) (a_r a_t a_g a_gb a_gr a_ge a_go a_gc : Nat)   (rr_at : Int32) (rr_fault : Int32) (gg_pieceCount : Int32) (gg_depth : Int32) (gg_ends : Int64) (gg_behind : Nat → Int64) (gg_readersOf : Nat → Int64) (p1 : Int32) (o_gg_pieceCount : Int32) (o_gg_ends : Int64) (o_gg_behind : Nat → Int64) (o_gg_readersOf : Nat → Int64) (h : f_Reader_addAnyButSlash fu p1 gg_pieceCount gg_ends gg_behind gg_readersOf = some (o_gg_pieceCount, o_gg_ends, o_gg_behind, o_gg_readersOf)) : GM l D (tysL cI cJ cC cZ cR) y_Reader_addAnyButSlash b_Reader_addAnyButSlash 2 none { frames := 2, cells := 0, slots := 0, locals := 49 } [.ref a_r, .int p1] (w_Reader_addAnyButSlash (cI := cI) (cJ := cJ) (cC := cC) (cZ := cZ) (cR := cR) a_r a_t a_g a_gb a_gr a_ge a_go a_gc rr_at rr_fault gg_pieceCount gg_depth gg_ends gg_behind gg_readersOf) (fun (o : Option Value) (w : va_W) => o = none ∧ w = w_Reader_addAnyButSlash (cI := cI) (cJ := cJ) (cC := cC) (cZ := cZ) (cR := cR) a_r a_t a_g a_gb a_gr a_ge a_go a_gc rr_at rr_fault o_gg_pieceCount gg_depth o_gg_ends o_gg_behind o_gg_readersOf) := by
  refine GM.of (by decide) (Nat.le_of_ble_eq_true rfl) (lv := [(0, .ref a_r), (1, .int p1)]) rfl ?_
  intro X hX C
  subst hX
  refine k_aload_n C d_Reader_addAnyButSlash_0 rfl 0 rfl rfl ?_
  refine k_getf C d_Reader_addAnyButSlash_1 hin_Reader rfl 1 (by decide) mw82 0 rfl rfl rfl ?_
  refine k_iload_n C d_Reader_addAnyButSlash_4 rfl 1 rfl rfl ?_
  obtain ⟨⟨ygg_pieceCount_1, ygg_ends_2, ygg_behind_3⟩, hc4, h⟩ := bd h
  refine k_callVd (As := [.int p1]) (st := []) (st' := []) (wn := w_Reader_addAnyButSlash (cI := cI) (cJ := cJ) (cC := cC) (cZ := cZ) (cR := cR) a_r a_t a_g a_gb a_gr a_ge a_go a_gc rr_at rr_fault ygg_pieceCount_1 gg_depth ygg_ends_2 ygg_behind_3 gg_readersOf) C d_Reader_addAnyButSlash_5 (c_Glob_addPiece fu a_g a_gb a_gr a_ge a_go a_gc gg_pieceCount gg_depth gg_ends gg_behind p1 ygg_pieceCount_1 ygg_ends_2 ygg_behind_3 hc4) co_Glob_addPiece cov_Glob_addPiece mw85 1 rfl rfl (by decide) (by decide) (Nat.le_of_ble_eq_true rfl) rfl [1, 2] [0, 3] [0, 2, 3, 1] rfl (by decide +kernel) rfl (by decide +kernel) (by decide +kernel) rfl (by decide +kernel) rfl rfl ?_
  refine k_aload_n C d_Reader_addAnyButSlash_8 rfl 0 rfl rfl ?_
  obtain ⟨ygg_readersOf_5, hc6, h⟩ := bd h
  refine k_callVd (As := []) (st := []) (st' := []) (wn := w_Reader_addAnyButSlash (cI := cI) (cJ := cJ) (cC := cC) (cZ := cZ) (cR := cR) a_r a_t a_g a_gb a_gr a_ge a_go a_gc rr_at rr_fault ygg_pieceCount_1 gg_depth ygg_ends_2 ygg_behind_3 ygg_readersOf_5) C d_Reader_addAnyButSlash_9 (c_Reader_setReadsAll fu a_r a_t a_g a_gb a_gr a_ge a_go a_gc rr_at rr_fault ygg_pieceCount_1 gg_depth ygg_ends_2 gg_readersOf ygg_readersOf_5 hc6) co_Reader_setReadsAll cov_Reader_setReadsAll mw86 0 rfl rfl (by decide) (by decide) (Nat.le_of_ble_eq_true rfl) rfl [0, 1, 3] [2] [1, 2, 0, 3] rfl (by decide +kernel) rfl (by decide +kernel) (by decide +kernel) rfl (by decide +kernel) rfl rfl ?_
  refine k_aload_n C d_Reader_addAnyButSlash_12 rfl 0 rfl rfl ?_
  refine k_bipush C d_Reader_addAnyButSlash_13 (v := (47 : Int32)) (by decide) rfl ?_
  refine k_bipush C d_Reader_addAnyButSlash_15 (v := (47 : Int32)) (by decide) rfl ?_
  refine k_iconst C d_Reader_addAnyButSlash_17 (v := (0 : Int32)) (by decide) rfl ?_
  obtain ⟨ygg_readersOf_7, hc8, h⟩ := bd h
  refine k_callVd (As := [.int (47 : Int32), .int (47 : Int32), .int (0 : Int32)]) (st := []) (st' := []) (wn := w_Reader_addAnyButSlash (cI := cI) (cJ := cJ) (cC := cC) (cZ := cZ) (cR := cR) a_r a_t a_g a_gb a_gr a_ge a_go a_gc rr_at rr_fault ygg_pieceCount_1 gg_depth ygg_ends_2 ygg_behind_3 ygg_readersOf_7) C d_Reader_addAnyButSlash_18 (c_Reader_setReads fu a_r a_t a_g a_gb a_gr a_ge a_go a_gc rr_at rr_fault ygg_pieceCount_1 gg_depth ygg_ends_2 ygg_readersOf_5 (47 : Int32) (47 : Int32) (0 : Int32) ygg_readersOf_7 hc8) co_Reader_setReads cov_Reader_setReads mw87 0 rfl rfl (by decide) (by decide) (Nat.le_of_ble_eq_true rfl) rfl [0, 1, 3] [2] [1, 2, 0, 3] rfl (by decide +kernel) rfl (by decide +kernel) (by decide +kernel) rfl (by decide +kernel) rfl rfl ?_
  exact k_vret C d_Reader_addAnyButSlash_21 (tr1 h (fun t => (fun (o : Option Value) (w : va_W) => o = none ∧ w = w_Reader_addAnyButSlash (cI := cI) (cJ := cJ) (cC := cC) (cZ := cZ) (cR := cR) a_r a_t a_g a_gb a_gr a_ge a_go a_gc rr_at rr_fault (t.1) gg_depth (t.2.1) (t.2.2.1) (t.2.2.2)) none (w_Reader_addAnyButSlash (cI := cI) (cJ := cJ) (cC := cC) (cZ := cZ) (cR := cR) a_r a_t a_g a_gb a_gr a_ge a_go a_gc rr_at rr_fault ygg_pieceCount_1 gg_depth ygg_ends_2 ygg_behind_3 ygg_readersOf_7)) ⟨rfl, rfl⟩)
theorem d_Reader_readByte_0 : decode b_Reader_readByte 0 = .ok (.aload_n 0, 1) := by decide +kernel
theorem d_Reader_readByte_1 : decode b_Reader_readByte 1 = .ok (.getfield 18, 3) := by decide +kernel
theorem d_Reader_readByte_4 : decode b_Reader_readByte 4 = .ok (.aload_n 0, 1) := by decide +kernel
theorem d_Reader_readByte_5 : decode b_Reader_readByte 5 = .ok (.getfield 22, 3) := by decide +kernel
theorem d_Reader_readByte_8 : decode b_Reader_readByte 8 = .ok (.invokevirtual 44, 3) := by decide +kernel
theorem d_Reader_readByte_11 : decode b_Reader_readByte 11 = .ok (.istore_n 1, 1) := by decide +kernel
theorem d_Reader_readByte_12 : decode b_Reader_readByte 12 = .ok (.iload_n 1, 1) := by decide +kernel
theorem d_Reader_readByte_13 : decode b_Reader_readByte 13 = .ok (.ifCond .eq 18, 3) := by decide +kernel
theorem d_Reader_readByte_16 : decode b_Reader_readByte 16 = .ok (.aload_n 0, 1) := by decide +kernel
theorem d_Reader_readByte_17 : decode b_Reader_readByte 17 = .ok (.getfield 12, 3) := by decide +kernel
theorem d_Reader_readByte_20 : decode b_Reader_readByte 20 = .ok (.iconst 0, 1) := by decide +kernel
theorem d_Reader_readByte_21 : decode b_Reader_readByte 21 = .ok (.invokevirtual 73, 3) := by decide +kernel
theorem d_Reader_readByte_24 : decode b_Reader_readByte 24 = .ok (.aload_n 0, 1) := by decide +kernel
theorem d_Reader_readByte_25 : decode b_Reader_readByte 25 = .ok (.iload_n 1, 1) := by decide +kernel
theorem d_Reader_readByte_26 : decode b_Reader_readByte 26 = .ok (.iload_n 1, 1) := by decide +kernel
theorem d_Reader_readByte_27 : decode b_Reader_readByte 27 = .ok (.iconst 1, 1) := by decide +kernel
theorem d_Reader_readByte_28 : decode b_Reader_readByte 28 = .ok (.invokevirtual 76, 3) := by decide +kernel
theorem d_Reader_readByte_31 : decode b_Reader_readByte 31 = .ok (.aload_n 0, 1) := by decide +kernel
theorem d_Reader_readByte_32 : decode b_Reader_readByte 32 = .ok (.iload_n 1, 1) := by decide +kernel
theorem d_Reader_readByte_33 : decode b_Reader_readByte 33 = .ok (.ifCond .eq 7, 3) := by decide +kernel
theorem d_Reader_readByte_36 : decode b_Reader_readByte 36 = .ok (.iconst 1, 1) := by decide +kernel
theorem d_Reader_readByte_37 : decode b_Reader_readByte 37 = .ok (.goto 4, 3) := by decide +kernel
theorem d_Reader_readByte_40 : decode b_Reader_readByte 40 = .ok (.iconst 0, 1) := by decide +kernel
theorem d_Reader_readByte_41 : decode b_Reader_readByte 41 = .ok (.invokevirtual 51, 3) := by decide +kernel
theorem d_Reader_readByte_44 : decode b_Reader_readByte 44 = .ok (.return_, 1) := by decide +kernel
abbrev w_Reader_readByte {cI cJ cC cZ cR : ClassId} (a_r a_t a_g a_tc a_gb a_gr a_ge a_go a_gc : Nat) (rr_at : Int32) (rr_fault : Int32) (tt_length : Int32) (tt_ch : Nat → Int32) (gg_pieceCount : Int32) (gg_depth : Int32) (gg_ends : Int64) (gg_behind : Nat → Int64) (gg_readersOf : Nat → Int64) : va_W := [(a_r, .inr (1, [.ref a_t, .ref a_g, .int rr_at, .int rr_fault])), (a_t, .inr (0, [.ref a_tc, .int tt_length])), (a_tc, .inl (cC, 40, .inl tt_ch)), (a_g, .inr (2, [.ref a_gb, .ref a_gr, .ref a_ge, .ref a_go, .ref a_gc, .int gg_pieceCount, .int gg_depth, .long gg_ends])), (a_gb, .inl (cJ, 41, .inr (.inl gg_behind))), (a_gr, .inl (cJ, 95, .inr (.inl gg_readersOf)))]
def f_Reader_readByte (fu : Nat) (rr_at : Int32) (rr_fault : Int32) (tt_length : Int32) (tt_ch : Nat → Int32) (gg_pieceCount : Int32) (gg_ends : Int64) (gg_behind : Nat → Int64) (gg_readersOf : Nat → Int64) : Option (Int32 × Int32 × Int32 × Int64 × (Nat → Int64) × (Nat → Int64)) := (Option.bind (f_Typed_characterAt rr_at tt_length tt_ch) fun r1 => (if r1 = 0 then (if r1 = 0 then (Option.bind (f_Reader_pass (0 : Int32) rr_at rr_fault) fun (yrr_at_5, yrr_fault_6) => some (yrr_at_5, yrr_fault_6, gg_pieceCount, gg_ends, gg_behind, gg_readersOf)) else (Option.bind (f_Reader_pass (1 : Int32) rr_at rr_fault) fun (yrr_at_8, yrr_fault_9) => some (yrr_at_8, yrr_fault_9, gg_pieceCount, gg_ends, gg_behind, gg_readersOf))) else (Option.bind (f_Glob_addPiece fu (0 : Int32) gg_pieceCount gg_ends gg_behind) fun (ygg_pieceCount_11, ygg_ends_12, ygg_behind_13) => (Option.bind (f_Reader_setReads fu r1 r1 (1 : Int32) ygg_pieceCount_11 gg_readersOf) fun ygg_readersOf_15 => (if r1 = 0 then (Option.bind (f_Reader_pass (0 : Int32) rr_at rr_fault) fun (yrr_at_18, yrr_fault_19) => some (yrr_at_18, yrr_fault_19, ygg_pieceCount_11, ygg_ends_12, ygg_behind_13, ygg_readersOf_15)) else (Option.bind (f_Reader_pass (1 : Int32) rr_at rr_fault) fun (yrr_at_21, yrr_fault_22) => some (yrr_at_21, yrr_fault_22, ygg_pieceCount_11, ygg_ends_12, ygg_behind_13, ygg_readersOf_15)))))))
set_option maxRecDepth 100000 in
set_option maxHeartbeats 4000000 in
theorem c_Reader_readByte {l : Launch} {D : va_G} {cI cJ cC cZ cR : ClassId} (fu : Nat) (a_r a_t a_g a_tc a_gb a_gr a_ge a_go a_gc : Nat)   (rr_at : Int32) (rr_fault : Int32) (tt_length : Int32) (tt_ch : Nat → Int32) (gg_pieceCount : Int32) (gg_depth : Int32) (gg_ends : Int64) (gg_behind : Nat → Int64) (gg_readersOf : Nat → Int64)  (o_rr_at : Int32) (o_rr_fault : Int32) (o_gg_pieceCount : Int32) (o_gg_ends : Int64) (o_gg_behind : Nat → Int64) (o_gg_readersOf : Nat → Int64) (h : f_Reader_readByte fu rr_at rr_fault tt_length tt_ch gg_pieceCount gg_ends gg_behind gg_readersOf = some (o_rr_at, o_rr_fault, o_gg_pieceCount, o_gg_ends, o_gg_behind, o_gg_readersOf)) : GM l D (tysL cI cJ cC cZ cR) y_Reader_readByte b_Reader_readByte 2 none { frames := 2, cells := 0, slots := 0, locals := 49 } [.ref a_r] (w_Reader_readByte (cI := cI) (cJ := cJ) (cC := cC) (cZ := cZ) (cR := cR) a_r a_t a_g a_tc a_gb a_gr a_ge a_go a_gc rr_at rr_fault tt_length tt_ch gg_pieceCount gg_depth gg_ends gg_behind gg_readersOf) (fun (o : Option Value) (w : va_W) => o = none ∧ w = w_Reader_readByte (cI := cI) (cJ := cJ) (cC := cC) (cZ := cZ) (cR := cR) a_r a_t a_g a_tc a_gb a_gr a_ge a_go a_gc o_rr_at o_rr_fault tt_length tt_ch o_gg_pieceCount gg_depth o_gg_ends o_gg_behind o_gg_readersOf) := by
  refine GM.of (by decide) (Nat.le_of_ble_eq_true rfl) (lv := [(0, .ref a_r)]) rfl ?_
  intro X hX C
  subst hX
  refine k_aload_n C d_Reader_readByte_0 rfl 0 rfl rfl ?_
  refine k_getf C d_Reader_readByte_1 hin_Reader rfl 0 (by decide) mw88 0 rfl rfl rfl ?_
  refine k_aload_n C d_Reader_readByte_4 rfl 0 rfl rfl ?_
  refine k_getf C d_Reader_readByte_5 hin_Reader rfl 2 (by decide) mw80 0 rfl rfl rfl ?_
  obtain ⟨r1, hc2, h⟩ := bd h
  refine k_callVd (As := [.int rr_at]) (st := []) (st' := [.int r1]) (wn := w_Reader_readByte (cI := cI) (cJ := cJ) (cC := cC) (cZ := cZ) (cR := cR) a_r a_t a_g a_tc a_gb a_gr a_ge a_go a_gc rr_at rr_fault tt_length tt_ch gg_pieceCount gg_depth gg_ends gg_behind gg_readersOf) C d_Reader_readByte_8 (c_Typed_characterAt fu a_t a_tc tt_length tt_ch rr_at r1 hc2) co_Typed_characterAt cov_Typed_characterAt mw89 1 rfl rfl (by decide) (by decide) (Nat.le_of_ble_eq_true rfl) rfl [1, 2] [0, 3, 4, 5] [0, 4, 5, 1, 2, 3] rfl (by decide +kernel) rfl (by decide +kernel) (by decide +kernel) rfl (by decide +kernel) rfl rfl ?_
  refine k_istore_n (lv' := [(1, .int r1), (0, .ref a_r)]) C d_Reader_readByte_11 rfl (by decide) rfl rfl ?_
  refine k_iload_n C d_Reader_readByte_12 rfl 0 rfl rfl ?_
  refine k_if_eq (tgt := 31) C d_Reader_readByte_13 (by decide) rfl (fun c3 => ?_) (fun c3 => ?_)
  · replace h := gi_t h c3
    refine k_aload_n C d_Reader_readByte_31 rfl 1 rfl rfl ?_
    refine k_iload_n C d_Reader_readByte_32 rfl 0 rfl rfl ?_
    refine k_if_eq (tgt := 40) C d_Reader_readByte_33 (by decide) rfl (fun c4 => ?_) (fun c4 => ?_)
    · replace h := gi_t h c4
      refine k_iconst C d_Reader_readByte_40 (v := (0 : Int32)) (by decide) rfl ?_
      obtain ⟨⟨yrr_at_5, yrr_fault_6⟩, hc7, h⟩ := bd h
      refine k_callVd (As := [.int (0 : Int32)]) (st := []) (st' := []) (wn := w_Reader_readByte (cI := cI) (cJ := cJ) (cC := cC) (cZ := cZ) (cR := cR) a_r a_t a_g a_tc a_gb a_gr a_ge a_go a_gc yrr_at_5 yrr_fault_6 tt_length tt_ch gg_pieceCount gg_depth gg_ends gg_behind gg_readersOf) C d_Reader_readByte_41 (c_Reader_pass fu a_r a_t a_g rr_at rr_fault (0 : Int32) yrr_at_5 yrr_fault_6 hc7) co_Reader_pass cov_Reader_pass mw90 0 rfl rfl (by decide) (by decide) (Nat.le_of_ble_eq_true rfl) rfl [0] [1, 2, 3, 4, 5] [5, 0, 1, 2, 3, 4] rfl (by decide +kernel) rfl (by decide +kernel) (by decide +kernel) rfl (by decide +kernel) rfl rfl ?_
      exact k_vret C d_Reader_readByte_44 (tr1 h (fun t => (fun (o : Option Value) (w : va_W) => o = none ∧ w = w_Reader_readByte (cI := cI) (cJ := cJ) (cC := cC) (cZ := cZ) (cR := cR) a_r a_t a_g a_tc a_gb a_gr a_ge a_go a_gc (t.1) (t.2.1) tt_length tt_ch (t.2.2.1) gg_depth (t.2.2.2.1) (t.2.2.2.2.1) (t.2.2.2.2.2)) none (w_Reader_readByte (cI := cI) (cJ := cJ) (cC := cC) (cZ := cZ) (cR := cR) a_r a_t a_g a_tc a_gb a_gr a_ge a_go a_gc yrr_at_5 yrr_fault_6 tt_length tt_ch gg_pieceCount gg_depth gg_ends gg_behind gg_readersOf)) ⟨rfl, rfl⟩)
    · replace h := gi_f h c4
      refine k_iconst C d_Reader_readByte_36 (v := (1 : Int32)) (by decide) rfl ?_
      refine k_goto (tgt := 41) C d_Reader_readByte_37 (by decide) ?_
      obtain ⟨⟨yrr_at_8, yrr_fault_9⟩, hc10, h⟩ := bd h
      refine k_callVd (As := [.int (1 : Int32)]) (st := []) (st' := []) (wn := w_Reader_readByte (cI := cI) (cJ := cJ) (cC := cC) (cZ := cZ) (cR := cR) a_r a_t a_g a_tc a_gb a_gr a_ge a_go a_gc yrr_at_8 yrr_fault_9 tt_length tt_ch gg_pieceCount gg_depth gg_ends gg_behind gg_readersOf) C d_Reader_readByte_41 (c_Reader_pass fu a_r a_t a_g rr_at rr_fault (1 : Int32) yrr_at_8 yrr_fault_9 hc10) co_Reader_pass cov_Reader_pass mw90 0 rfl rfl (by decide) (by decide) (Nat.le_of_ble_eq_true rfl) rfl [0] [1, 2, 3, 4, 5] [5, 0, 1, 2, 3, 4] rfl (by decide +kernel) rfl (by decide +kernel) (by decide +kernel) rfl (by decide +kernel) rfl rfl ?_
      exact k_vret C d_Reader_readByte_44 (tr1 h (fun t => (fun (o : Option Value) (w : va_W) => o = none ∧ w = w_Reader_readByte (cI := cI) (cJ := cJ) (cC := cC) (cZ := cZ) (cR := cR) a_r a_t a_g a_tc a_gb a_gr a_ge a_go a_gc (t.1) (t.2.1) tt_length tt_ch (t.2.2.1) gg_depth (t.2.2.2.1) (t.2.2.2.2.1) (t.2.2.2.2.2)) none (w_Reader_readByte (cI := cI) (cJ := cJ) (cC := cC) (cZ := cZ) (cR := cR) a_r a_t a_g a_tc a_gb a_gr a_ge a_go a_gc yrr_at_8 yrr_fault_9 tt_length tt_ch gg_pieceCount gg_depth gg_ends gg_behind gg_readersOf)) ⟨rfl, rfl⟩)
  · replace h := gi_f h c3
    refine k_aload_n C d_Reader_readByte_16 rfl 1 rfl rfl ?_
    refine k_getf C d_Reader_readByte_17 hin_Reader rfl 1 (by decide) mw82 0 rfl rfl rfl ?_
    refine k_iconst C d_Reader_readByte_20 (v := (0 : Int32)) (by decide) rfl ?_
    obtain ⟨⟨ygg_pieceCount_11, ygg_ends_12, ygg_behind_13⟩, hc14, h⟩ := bd h
    refine k_callVd (As := [.int (0 : Int32)]) (st := []) (st' := []) (wn := w_Reader_readByte (cI := cI) (cJ := cJ) (cC := cC) (cZ := cZ) (cR := cR) a_r a_t a_g a_tc a_gb a_gr a_ge a_go a_gc rr_at rr_fault tt_length tt_ch ygg_pieceCount_11 gg_depth ygg_ends_12 ygg_behind_13 gg_readersOf) C d_Reader_readByte_21 (c_Glob_addPiece fu a_g a_gb a_gr a_ge a_go a_gc gg_pieceCount gg_depth gg_ends gg_behind (0 : Int32) ygg_pieceCount_11 ygg_ends_12 ygg_behind_13 hc14) co_Glob_addPiece cov_Glob_addPiece mw85 3 rfl rfl (by decide) (by decide) (Nat.le_of_ble_eq_true rfl) rfl [3, 4] [0, 1, 2, 5] [0, 1, 2, 4, 5, 3] rfl (by decide +kernel) rfl (by decide +kernel) (by decide +kernel) rfl (by decide +kernel) rfl rfl ?_
    refine k_aload_n C d_Reader_readByte_24 rfl 1 rfl rfl ?_
    refine k_iload_n C d_Reader_readByte_25 rfl 0 rfl rfl ?_
    refine k_iload_n C d_Reader_readByte_26 rfl 0 rfl rfl ?_
    refine k_iconst C d_Reader_readByte_27 (v := (1 : Int32)) (by decide) rfl ?_
    obtain ⟨ygg_readersOf_15, hc16, h⟩ := bd h
    refine k_callVd (As := [.int r1, .int r1, .int (1 : Int32)]) (st := []) (st' := []) (wn := w_Reader_readByte (cI := cI) (cJ := cJ) (cC := cC) (cZ := cZ) (cR := cR) a_r a_t a_g a_tc a_gb a_gr a_ge a_go a_gc rr_at rr_fault tt_length tt_ch ygg_pieceCount_11 gg_depth ygg_ends_12 ygg_behind_13 ygg_readersOf_15) C d_Reader_readByte_28 (c_Reader_setReads fu a_r a_t a_g a_gb a_gr a_ge a_go a_gc rr_at rr_fault ygg_pieceCount_11 gg_depth ygg_ends_12 gg_readersOf r1 r1 (1 : Int32) ygg_readersOf_15 hc16) co_Reader_setReads cov_Reader_setReads mw87 0 rfl rfl (by decide) (by decide) (Nat.le_of_ble_eq_true rfl) rfl [0, 3, 5] [1, 2, 4] [3, 0, 1, 4, 2, 5] rfl (by decide +kernel) rfl (by decide +kernel) (by decide +kernel) rfl (by decide +kernel) rfl rfl ?_
    refine k_aload_n C d_Reader_readByte_31 rfl 1 rfl rfl ?_
    refine k_iload_n C d_Reader_readByte_32 rfl 0 rfl rfl ?_
    refine k_if_eq (tgt := 40) C d_Reader_readByte_33 (by decide) rfl (fun c17 => ?_) (fun c17 => ?_)
    · replace h := gi_t h c17
      refine k_iconst C d_Reader_readByte_40 (v := (0 : Int32)) (by decide) rfl ?_
      obtain ⟨⟨yrr_at_18, yrr_fault_19⟩, hc20, h⟩ := bd h
      refine k_callVd (As := [.int (0 : Int32)]) (st := []) (st' := []) (wn := w_Reader_readByte (cI := cI) (cJ := cJ) (cC := cC) (cZ := cZ) (cR := cR) a_r a_t a_g a_tc a_gb a_gr a_ge a_go a_gc yrr_at_18 yrr_fault_19 tt_length tt_ch ygg_pieceCount_11 gg_depth ygg_ends_12 ygg_behind_13 ygg_readersOf_15) C d_Reader_readByte_41 (c_Reader_pass fu a_r a_t a_g rr_at rr_fault (0 : Int32) yrr_at_18 yrr_fault_19 hc20) co_Reader_pass cov_Reader_pass mw90 0 rfl rfl (by decide) (by decide) (Nat.le_of_ble_eq_true rfl) rfl [0] [1, 2, 3, 4, 5] [5, 0, 1, 2, 3, 4] rfl (by decide +kernel) rfl (by decide +kernel) (by decide +kernel) rfl (by decide +kernel) rfl rfl ?_
      exact k_vret C d_Reader_readByte_44 (tr1 h (fun t => (fun (o : Option Value) (w : va_W) => o = none ∧ w = w_Reader_readByte (cI := cI) (cJ := cJ) (cC := cC) (cZ := cZ) (cR := cR) a_r a_t a_g a_tc a_gb a_gr a_ge a_go a_gc (t.1) (t.2.1) tt_length tt_ch (t.2.2.1) gg_depth (t.2.2.2.1) (t.2.2.2.2.1) (t.2.2.2.2.2)) none (w_Reader_readByte (cI := cI) (cJ := cJ) (cC := cC) (cZ := cZ) (cR := cR) a_r a_t a_g a_tc a_gb a_gr a_ge a_go a_gc yrr_at_18 yrr_fault_19 tt_length tt_ch ygg_pieceCount_11 gg_depth ygg_ends_12 ygg_behind_13 ygg_readersOf_15)) ⟨rfl, rfl⟩)
    · replace h := gi_f h c17
      refine k_iconst C d_Reader_readByte_36 (v := (1 : Int32)) (by decide) rfl ?_
      refine k_goto (tgt := 41) C d_Reader_readByte_37 (by decide) ?_
      obtain ⟨⟨yrr_at_21, yrr_fault_22⟩, hc23, h⟩ := bd h
      refine k_callVd (As := [.int (1 : Int32)]) (st := []) (st' := []) (wn := w_Reader_readByte (cI := cI) (cJ := cJ) (cC := cC) (cZ := cZ) (cR := cR) a_r a_t a_g a_tc a_gb a_gr a_ge a_go a_gc yrr_at_21 yrr_fault_22 tt_length tt_ch ygg_pieceCount_11 gg_depth ygg_ends_12 ygg_behind_13 ygg_readersOf_15) C d_Reader_readByte_41 (c_Reader_pass fu a_r a_t a_g rr_at rr_fault (1 : Int32) yrr_at_21 yrr_fault_22 hc23) co_Reader_pass cov_Reader_pass mw90 0 rfl rfl (by decide) (by decide) (Nat.le_of_ble_eq_true rfl) rfl [0] [1, 2, 3, 4, 5] [5, 0, 1, 2, 3, 4] rfl (by decide +kernel) rfl (by decide +kernel) (by decide +kernel) rfl (by decide +kernel) rfl rfl ?_
      exact k_vret C d_Reader_readByte_44 (tr1 h (fun t => (fun (o : Option Value) (w : va_W) => o = none ∧ w = w_Reader_readByte (cI := cI) (cJ := cJ) (cC := cC) (cZ := cZ) (cR := cR) a_r a_t a_g a_tc a_gb a_gr a_ge a_go a_gc (t.1) (t.2.1) tt_length tt_ch (t.2.2.1) gg_depth (t.2.2.2.1) (t.2.2.2.2.1) (t.2.2.2.2.2)) none (w_Reader_readByte (cI := cI) (cJ := cJ) (cC := cC) (cZ := cZ) (cR := cR) a_r a_t a_g a_tc a_gb a_gr a_ge a_go a_gc yrr_at_21 yrr_fault_22 tt_length tt_ch ygg_pieceCount_11 gg_depth ygg_ends_12 ygg_behind_13 ygg_readersOf_15)) ⟨rfl, rfl⟩)
theorem d_Reader_readStars_0 : decode b_Reader_readStars 0 = .ok (.aload_n 0, 1) := by decide +kernel
theorem d_Reader_readStars_1 : decode b_Reader_readStars 1 = .ok (.iconst 1, 1) := by decide +kernel
theorem d_Reader_readStars_2 : decode b_Reader_readStars 2 = .ok (.invokevirtual 51, 3) := by decide +kernel
theorem d_Reader_readStars_5 : decode b_Reader_readStars 5 = .ok (.aload_n 0, 1) := by decide +kernel
theorem d_Reader_readStars_6 : decode b_Reader_readStars 6 = .ok (.getfield 18, 3) := by decide +kernel
theorem d_Reader_readStars_9 : decode b_Reader_readStars 9 = .ok (.aload_n 0, 1) := by decide +kernel
theorem d_Reader_readStars_10 : decode b_Reader_readStars 10 = .ok (.getfield 22, 3) := by decide +kernel
theorem d_Reader_readStars_13 : decode b_Reader_readStars 13 = .ok (.invokevirtual 44, 3) := by decide +kernel
theorem d_Reader_readStars_16 : decode b_Reader_readStars 16 = .ok (.bipush 42, 2) := by decide +kernel
theorem d_Reader_readStars_18 : decode b_Reader_readStars 18 = .ok (.if_icmp .ne 23, 3) := by decide +kernel
theorem d_Reader_readStars_21 : decode b_Reader_readStars 21 = .ok (.aload_n 0, 1) := by decide +kernel
theorem d_Reader_readStars_22 : decode b_Reader_readStars 22 = .ok (.getfield 12, 3) := by decide +kernel
theorem d_Reader_readStars_25 : decode b_Reader_readStars 25 = .ok (.iconst 1, 1) := by decide +kernel
theorem d_Reader_readStars_26 : decode b_Reader_readStars 26 = .ok (.invokevirtual 73, 3) := by decide +kernel
theorem d_Reader_readStars_29 : decode b_Reader_readStars 29 = .ok (.aload_n 0, 1) := by decide +kernel
theorem d_Reader_readStars_30 : decode b_Reader_readStars 30 = .ok (.invokevirtual 80, 3) := by decide +kernel
theorem d_Reader_readStars_33 : decode b_Reader_readStars 33 = .ok (.aload_n 0, 1) := by decide +kernel
theorem d_Reader_readStars_34 : decode b_Reader_readStars 34 = .ok (.iconst 1, 1) := by decide +kernel
theorem d_Reader_readStars_35 : decode b_Reader_readStars 35 = .ok (.invokevirtual 51, 3) := by decide +kernel
theorem d_Reader_readStars_38 : decode b_Reader_readStars 38 = .ok (.goto 8, 3) := by decide +kernel
theorem d_Reader_readStars_41 : decode b_Reader_readStars 41 = .ok (.aload_n 0, 1) := by decide +kernel
theorem d_Reader_readStars_42 : decode b_Reader_readStars 42 = .ok (.iconst 1, 1) := by decide +kernel
theorem d_Reader_readStars_43 : decode b_Reader_readStars 43 = .ok (.invokevirtual 64, 3) := by decide +kernel
theorem d_Reader_readStars_46 : decode b_Reader_readStars 46 = .ok (.return_, 1) := by decide +kernel
abbrev w_Reader_readStars {cI cJ cC cZ cR : ClassId} (a_r a_t a_g a_tc a_gb a_gr a_ge a_go a_gc : Nat) (rr_at : Int32) (rr_fault : Int32) (tt_length : Int32) (tt_ch : Nat → Int32) (gg_pieceCount : Int32) (gg_depth : Int32) (gg_ends : Int64) (gg_behind : Nat → Int64) (gg_readersOf : Nat → Int64) : va_W := [(a_r, .inr (1, [.ref a_t, .ref a_g, .int rr_at, .int rr_fault])), (a_t, .inr (0, [.ref a_tc, .int tt_length])), (a_tc, .inl (cC, 40, .inl tt_ch)), (a_g, .inr (2, [.ref a_gb, .ref a_gr, .ref a_ge, .ref a_go, .ref a_gc, .int gg_pieceCount, .int gg_depth, .long gg_ends])), (a_gb, .inl (cJ, 41, .inr (.inl gg_behind))), (a_gr, .inl (cJ, 95, .inr (.inl gg_readersOf)))]
def f_Reader_readStars (fu : Nat) (rr_at : Int32) (rr_fault : Int32) (tt_length : Int32) (tt_ch : Nat → Int32) (gg_pieceCount : Int32) (gg_ends : Int64) (gg_behind : Nat → Int64) (gg_readersOf : Nat → Int64) : Option (Int32 × Int32 × Int32 × Int64 × (Nat → Int64) × (Nat → Int64)) := (Option.bind (f_Reader_pass (1 : Int32) rr_at rr_fault) fun (yrr_at_1, yrr_fault_2) => (Option.bind (f_Typed_characterAt yrr_at_1 tt_length tt_ch) fun r4 => (if r4 = (42 : Int32) then (Option.bind (f_Glob_addPiece fu (1 : Int32) gg_pieceCount gg_ends gg_behind) fun (ygg_pieceCount_12, ygg_ends_13, ygg_behind_14) => (Option.bind (f_Reader_setReadsAll fu ygg_pieceCount_12 gg_readersOf) fun ygg_readersOf_16 => (Option.bind (f_Reader_pass (1 : Int32) yrr_at_1 yrr_fault_2) fun (yrr_at_18, yrr_fault_19) => some (yrr_at_18, yrr_fault_19, ygg_pieceCount_12, ygg_ends_13, ygg_behind_14, ygg_readersOf_16)))) else (Option.bind (f_Reader_addAnyButSlash fu (1 : Int32) gg_pieceCount gg_ends gg_behind gg_readersOf) fun (ygg_pieceCount_7, ygg_ends_8, ygg_behind_9, ygg_readersOf_10) => some (yrr_at_1, yrr_fault_2, ygg_pieceCount_7, ygg_ends_8, ygg_behind_9, ygg_readersOf_10)))))
set_option maxRecDepth 100000 in
set_option maxHeartbeats 4000000 in
theorem c_Reader_readStars {l : Launch} {D : va_G} {cI cJ cC cZ cR : ClassId} (fu : Nat) (a_r a_t a_g a_tc a_gb a_gr a_ge a_go a_gc : Nat)   (rr_at : Int32) (rr_fault : Int32) (tt_length : Int32) (tt_ch : Nat → Int32) (gg_pieceCount : Int32) (gg_depth : Int32) (gg_ends : Int64) (gg_behind : Nat → Int64) (gg_readersOf : Nat → Int64)  (o_rr_at : Int32) (o_rr_fault : Int32) (o_gg_pieceCount : Int32) (o_gg_ends : Int64) (o_gg_behind : Nat → Int64) (o_gg_readersOf : Nat → Int64) (h : f_Reader_readStars fu rr_at rr_fault tt_length tt_ch gg_pieceCount gg_ends gg_behind gg_readersOf = some (o_rr_at, o_rr_fault, o_gg_pieceCount, o_gg_ends, o_gg_behind, o_gg_readersOf)) : GM l D (tysL cI cJ cC cZ cR) y_Reader_readStars b_Reader_readStars 1 none { frames := 3, cells := 0, slots := 0, locals := 70 } [.ref a_r] (w_Reader_readStars (cI := cI) (cJ := cJ) (cC := cC) (cZ := cZ) (cR := cR) a_r a_t a_g a_tc a_gb a_gr a_ge a_go a_gc rr_at rr_fault tt_length tt_ch gg_pieceCount gg_depth gg_ends gg_behind gg_readersOf) (fun (o : Option Value) (w : va_W) => o = none ∧ w = w_Reader_readStars (cI := cI) (cJ := cJ) (cC := cC) (cZ := cZ) (cR := cR) a_r a_t a_g a_tc a_gb a_gr a_ge a_go a_gc o_rr_at o_rr_fault tt_length tt_ch o_gg_pieceCount gg_depth o_gg_ends o_gg_behind o_gg_readersOf) := by
  refine GM.of (by decide) (Nat.le_of_ble_eq_true rfl) (lv := [(0, .ref a_r)]) rfl ?_
  intro X hX C
  subst hX
  refine k_aload_n C d_Reader_readStars_0 rfl 0 rfl rfl ?_
  refine k_iconst C d_Reader_readStars_1 (v := (1 : Int32)) (by decide) rfl ?_
  obtain ⟨⟨yrr_at_1, yrr_fault_2⟩, hc3, h⟩ := bd h
  refine k_callVd (As := [.int (1 : Int32)]) (st := []) (st' := []) (wn := w_Reader_readStars (cI := cI) (cJ := cJ) (cC := cC) (cZ := cZ) (cR := cR) a_r a_t a_g a_tc a_gb a_gr a_ge a_go a_gc yrr_at_1 yrr_fault_2 tt_length tt_ch gg_pieceCount gg_depth gg_ends gg_behind gg_readersOf) C d_Reader_readStars_2 (c_Reader_pass fu a_r a_t a_g rr_at rr_fault (1 : Int32) yrr_at_1 yrr_fault_2 hc3) co_Reader_pass cov_Reader_pass mw90 0 rfl rfl (by decide) (by decide) (Nat.le_of_ble_eq_true rfl) rfl [0] [1, 2, 3, 4, 5] [5, 0, 1, 2, 3, 4] rfl (by decide +kernel) rfl (by decide +kernel) (by decide +kernel) rfl (by decide +kernel) rfl rfl ?_
  refine k_aload_n C d_Reader_readStars_5 rfl 0 rfl rfl ?_
  refine k_getf C d_Reader_readStars_6 hin_Reader rfl 0 (by decide) mw88 0 rfl rfl rfl ?_
  refine k_aload_n C d_Reader_readStars_9 rfl 0 rfl rfl ?_
  refine k_getf C d_Reader_readStars_10 hin_Reader rfl 2 (by decide) mw80 0 rfl rfl rfl ?_
  obtain ⟨r4, hc5, h⟩ := bd h
  refine k_callVd (As := [.int yrr_at_1]) (st := []) (st' := [.int r4]) (wn := w_Reader_readStars (cI := cI) (cJ := cJ) (cC := cC) (cZ := cZ) (cR := cR) a_r a_t a_g a_tc a_gb a_gr a_ge a_go a_gc yrr_at_1 yrr_fault_2 tt_length tt_ch gg_pieceCount gg_depth gg_ends gg_behind gg_readersOf) C d_Reader_readStars_13 (c_Typed_characterAt fu a_t a_tc tt_length tt_ch yrr_at_1 r4 hc5) co_Typed_characterAt cov_Typed_characterAt mw89 1 rfl rfl (by decide) (by decide) (Nat.le_of_ble_eq_true rfl) rfl [1, 2] [0, 3, 4, 5] [0, 4, 5, 1, 2, 3] rfl (by decide +kernel) rfl (by decide +kernel) (by decide +kernel) rfl (by decide +kernel) rfl rfl ?_
  refine k_bipush C d_Reader_readStars_16 (v := (42 : Int32)) (by decide) rfl ?_
  refine k_icmp_ne (tgt := 41) C d_Reader_readStars_18 (by decide) rfl (fun c6 => ?_) (fun c6 => ?_)
  · replace h := gi_f h c6
    refine k_aload_n C d_Reader_readStars_41 rfl 0 rfl rfl ?_
    refine k_iconst C d_Reader_readStars_42 (v := (1 : Int32)) (by decide) rfl ?_
    obtain ⟨⟨ygg_pieceCount_7, ygg_ends_8, ygg_behind_9, ygg_readersOf_10⟩, hc11, h⟩ := bd h
    refine k_callVd (As := [.int (1 : Int32)]) (st := []) (st' := []) (wn := w_Reader_readStars (cI := cI) (cJ := cJ) (cC := cC) (cZ := cZ) (cR := cR) a_r a_t a_g a_tc a_gb a_gr a_ge a_go a_gc yrr_at_1 yrr_fault_2 tt_length tt_ch ygg_pieceCount_7 gg_depth ygg_ends_8 ygg_behind_9 ygg_readersOf_10) C d_Reader_readStars_43 (c_Reader_addAnyButSlash fu a_r a_t a_g a_gb a_gr a_ge a_go a_gc yrr_at_1 yrr_fault_2 gg_pieceCount gg_depth gg_ends gg_behind gg_readersOf (1 : Int32) ygg_pieceCount_7 ygg_ends_8 ygg_behind_9 ygg_readersOf_10 hc11) co_Reader_addAnyButSlash cov_Reader_addAnyButSlash mw91 0 rfl rfl (by decide) (by decide) (Nat.le_of_ble_eq_true rfl) rfl [0, 3, 4, 5] [1, 2] [2, 0, 1, 3, 4, 5] rfl (by decide +kernel) rfl (by decide +kernel) (by decide +kernel) rfl (by decide +kernel) rfl rfl ?_
    exact k_vret C d_Reader_readStars_46 (tr1 h (fun t => (fun (o : Option Value) (w : va_W) => o = none ∧ w = w_Reader_readStars (cI := cI) (cJ := cJ) (cC := cC) (cZ := cZ) (cR := cR) a_r a_t a_g a_tc a_gb a_gr a_ge a_go a_gc (t.1) (t.2.1) tt_length tt_ch (t.2.2.1) gg_depth (t.2.2.2.1) (t.2.2.2.2.1) (t.2.2.2.2.2)) none (w_Reader_readStars (cI := cI) (cJ := cJ) (cC := cC) (cZ := cZ) (cR := cR) a_r a_t a_g a_tc a_gb a_gr a_ge a_go a_gc yrr_at_1 yrr_fault_2 tt_length tt_ch ygg_pieceCount_7 gg_depth ygg_ends_8 ygg_behind_9 ygg_readersOf_10)) ⟨rfl, rfl⟩)
  · replace h := gi_t h c6
    refine k_aload_n C d_Reader_readStars_21 rfl 0 rfl rfl ?_
    refine k_getf C d_Reader_readStars_22 hin_Reader rfl 1 (by decide) mw82 0 rfl rfl rfl ?_
    refine k_iconst C d_Reader_readStars_25 (v := (1 : Int32)) (by decide) rfl ?_
    obtain ⟨⟨ygg_pieceCount_12, ygg_ends_13, ygg_behind_14⟩, hc15, h⟩ := bd h
    refine k_callVd (As := [.int (1 : Int32)]) (st := []) (st' := []) (wn := w_Reader_readStars (cI := cI) (cJ := cJ) (cC := cC) (cZ := cZ) (cR := cR) a_r a_t a_g a_tc a_gb a_gr a_ge a_go a_gc yrr_at_1 yrr_fault_2 tt_length tt_ch ygg_pieceCount_12 gg_depth ygg_ends_13 ygg_behind_14 gg_readersOf) C d_Reader_readStars_26 (c_Glob_addPiece fu a_g a_gb a_gr a_ge a_go a_gc gg_pieceCount gg_depth gg_ends gg_behind (1 : Int32) ygg_pieceCount_12 ygg_ends_13 ygg_behind_14 hc15) co_Glob_addPiece cov_Glob_addPiece mw85 3 rfl rfl (by decide) (by decide) (Nat.le_of_ble_eq_true rfl) rfl [3, 4] [0, 1, 2, 5] [0, 1, 2, 4, 5, 3] rfl (by decide +kernel) rfl (by decide +kernel) (by decide +kernel) rfl (by decide +kernel) rfl rfl ?_
    refine k_aload_n C d_Reader_readStars_29 rfl 0 rfl rfl ?_
    obtain ⟨ygg_readersOf_16, hc17, h⟩ := bd h
    refine k_callVd (As := []) (st := []) (st' := []) (wn := w_Reader_readStars (cI := cI) (cJ := cJ) (cC := cC) (cZ := cZ) (cR := cR) a_r a_t a_g a_tc a_gb a_gr a_ge a_go a_gc yrr_at_1 yrr_fault_2 tt_length tt_ch ygg_pieceCount_12 gg_depth ygg_ends_13 ygg_behind_14 ygg_readersOf_16) C d_Reader_readStars_30 (c_Reader_setReadsAll fu a_r a_t a_g a_gb a_gr a_ge a_go a_gc yrr_at_1 yrr_fault_2 ygg_pieceCount_12 gg_depth ygg_ends_13 gg_readersOf ygg_readersOf_16 hc17) co_Reader_setReadsAll cov_Reader_setReadsAll mw86 0 rfl rfl (by decide) (by decide) (Nat.le_of_ble_eq_true rfl) rfl [0, 3, 5] [1, 2, 4] [3, 0, 1, 4, 2, 5] rfl (by decide +kernel) rfl (by decide +kernel) (by decide +kernel) rfl (by decide +kernel) rfl rfl ?_
    refine k_aload_n C d_Reader_readStars_33 rfl 0 rfl rfl ?_
    refine k_iconst C d_Reader_readStars_34 (v := (1 : Int32)) (by decide) rfl ?_
    obtain ⟨⟨yrr_at_18, yrr_fault_19⟩, hc20, h⟩ := bd h
    refine k_callVd (As := [.int (1 : Int32)]) (st := []) (st' := []) (wn := w_Reader_readStars (cI := cI) (cJ := cJ) (cC := cC) (cZ := cZ) (cR := cR) a_r a_t a_g a_tc a_gb a_gr a_ge a_go a_gc yrr_at_18 yrr_fault_19 tt_length tt_ch ygg_pieceCount_12 gg_depth ygg_ends_13 ygg_behind_14 ygg_readersOf_16) C d_Reader_readStars_35 (c_Reader_pass fu a_r a_t a_g yrr_at_1 yrr_fault_2 (1 : Int32) yrr_at_18 yrr_fault_19 hc20) co_Reader_pass cov_Reader_pass mw90 0 rfl rfl (by decide) (by decide) (Nat.le_of_ble_eq_true rfl) rfl [0] [1, 2, 3, 4, 5] [5, 0, 1, 2, 3, 4] rfl (by decide +kernel) rfl (by decide +kernel) (by decide +kernel) rfl (by decide +kernel) rfl rfl ?_
    refine k_goto (tgt := 46) C d_Reader_readStars_38 (by decide) ?_
    exact k_vret C d_Reader_readStars_46 (tr1 h (fun t => (fun (o : Option Value) (w : va_W) => o = none ∧ w = w_Reader_readStars (cI := cI) (cJ := cJ) (cC := cC) (cZ := cZ) (cR := cR) a_r a_t a_g a_tc a_gb a_gr a_ge a_go a_gc (t.1) (t.2.1) tt_length tt_ch (t.2.2.1) gg_depth (t.2.2.2.1) (t.2.2.2.2.1) (t.2.2.2.2.2)) none (w_Reader_readStars (cI := cI) (cJ := cJ) (cC := cC) (cZ := cZ) (cR := cR) a_r a_t a_g a_tc a_gb a_gr a_ge a_go a_gc yrr_at_18 yrr_fault_19 tt_length tt_ch ygg_pieceCount_12 gg_depth ygg_ends_13 ygg_behind_14 ygg_readersOf_16)) ⟨rfl, rfl⟩)
theorem d_Reader_readElement_0 : decode b_Reader_readElement 0 = .ok (.aload_n 0, 1) := by decide +kernel
theorem d_Reader_readElement_1 : decode b_Reader_readElement 1 = .ok (.getfield 18, 3) := by decide +kernel
theorem d_Reader_readElement_4 : decode b_Reader_readElement 4 = .ok (.aload_n 0, 1) := by decide +kernel
theorem d_Reader_readElement_5 : decode b_Reader_readElement 5 = .ok (.getfield 22, 3) := by decide +kernel
theorem d_Reader_readElement_8 : decode b_Reader_readElement 8 = .ok (.invokevirtual 44, 3) := by decide +kernel
theorem d_Reader_readElement_11 : decode b_Reader_readElement 11 = .ok (.istore_n 2, 1) := by decide +kernel
theorem d_Reader_readElement_12 : decode b_Reader_readElement 12 = .ok (.iload_n 2, 1) := by decide +kernel
theorem d_Reader_readElement_13 : decode b_Reader_readElement 13 = .ok (.istore_n 3, 1) := by decide +kernel
theorem d_Reader_readElement_14 : decode b_Reader_readElement 14 = .ok (.aload_n 0, 1) := by decide +kernel
theorem d_Reader_readElement_15 : decode b_Reader_readElement 15 = .ok (.iload_n 2, 1) := by decide +kernel
theorem d_Reader_readElement_16 : decode b_Reader_readElement 16 = .ok (.invokestatic 86, 3) := by decide +kernel
theorem d_Reader_readElement_19 : decode b_Reader_readElement 19 = .ok (.invokevirtual 51, 3) := by decide +kernel
theorem d_Reader_readElement_22 : decode b_Reader_readElement 22 = .ok (.aload_n 0, 1) := by decide +kernel
theorem d_Reader_readElement_23 : decode b_Reader_readElement 23 = .ok (.getfield 26, 3) := by decide +kernel
theorem d_Reader_readElement_26 : decode b_Reader_readElement 26 = .ok (.iconst (-1), 1) := by decide +kernel
theorem d_Reader_readElement_27 : decode b_Reader_readElement 27 = .ok (.if_icmp .ne 57, 3) := by decide +kernel
theorem d_Reader_readElement_30 : decode b_Reader_readElement 30 = .ok (.aload_n 0, 1) := by decide +kernel
theorem d_Reader_readElement_31 : decode b_Reader_readElement 31 = .ok (.getfield 18, 3) := by decide +kernel
theorem d_Reader_readElement_34 : decode b_Reader_readElement 34 = .ok (.aload_n 0, 1) := by decide +kernel
theorem d_Reader_readElement_35 : decode b_Reader_readElement 35 = .ok (.getfield 22, 3) := by decide +kernel
theorem d_Reader_readElement_38 : decode b_Reader_readElement 38 = .ok (.invokevirtual 44, 3) := by decide +kernel
theorem d_Reader_readElement_41 : decode b_Reader_readElement 41 = .ok (.bipush 45, 2) := by decide +kernel
theorem d_Reader_readElement_43 : decode b_Reader_readElement 43 = .ok (.if_icmp .ne 41, 3) := by decide +kernel
theorem d_Reader_readElement_46 : decode b_Reader_readElement 46 = .ok (.aload_n 0, 1) := by decide +kernel
theorem d_Reader_readElement_47 : decode b_Reader_readElement 47 = .ok (.iconst 1, 1) := by decide +kernel
theorem d_Reader_readElement_48 : decode b_Reader_readElement 48 = .ok (.invokevirtual 51, 3) := by decide +kernel
theorem d_Reader_readElement_51 : decode b_Reader_readElement 51 = .ok (.aload_n 0, 1) := by decide +kernel
theorem d_Reader_readElement_52 : decode b_Reader_readElement 52 = .ok (.getfield 18, 3) := by decide +kernel
theorem d_Reader_readElement_55 : decode b_Reader_readElement 55 = .ok (.aload_n 0, 1) := by decide +kernel
theorem d_Reader_readElement_56 : decode b_Reader_readElement 56 = .ok (.getfield 22, 3) := by decide +kernel
theorem d_Reader_readElement_59 : decode b_Reader_readElement 59 = .ok (.invokevirtual 44, 3) := by decide +kernel
theorem d_Reader_readElement_62 : decode b_Reader_readElement 62 = .ok (.istore_n 3, 1) := by decide +kernel
theorem d_Reader_readElement_63 : decode b_Reader_readElement 63 = .ok (.aload_n 0, 1) := by decide +kernel
theorem d_Reader_readElement_64 : decode b_Reader_readElement 64 = .ok (.iload_n 3, 1) := by decide +kernel
theorem d_Reader_readElement_65 : decode b_Reader_readElement 65 = .ok (.invokestatic 86, 3) := by decide +kernel
theorem d_Reader_readElement_68 : decode b_Reader_readElement 68 = .ok (.ifCond .eq 12, 3) := by decide +kernel
theorem d_Reader_readElement_71 : decode b_Reader_readElement 71 = .ok (.iload_n 2, 1) := by decide +kernel
theorem d_Reader_readElement_72 : decode b_Reader_readElement 72 = .ok (.iload_n 3, 1) := by decide +kernel
theorem d_Reader_readElement_73 : decode b_Reader_readElement 73 = .ok (.if_icmp .gt 7, 3) := by decide +kernel
theorem d_Reader_readElement_76 : decode b_Reader_readElement 76 = .ok (.iconst 1, 1) := by decide +kernel
theorem d_Reader_readElement_77 : decode b_Reader_readElement 77 = .ok (.goto 4, 3) := by decide +kernel
theorem d_Reader_readElement_80 : decode b_Reader_readElement 80 = .ok (.iconst 0, 1) := by decide +kernel
theorem d_Reader_readElement_81 : decode b_Reader_readElement 81 = .ok (.invokevirtual 51, 3) := by decide +kernel
theorem d_Reader_readElement_84 : decode b_Reader_readElement 84 = .ok (.aload_n 0, 1) := by decide +kernel
theorem d_Reader_readElement_85 : decode b_Reader_readElement 85 = .ok (.getfield 26, 3) := by decide +kernel
theorem d_Reader_readElement_88 : decode b_Reader_readElement 88 = .ok (.iconst (-1), 1) := by decide +kernel
theorem d_Reader_readElement_89 : decode b_Reader_readElement 89 = .ok (.if_icmp .ne 10, 3) := by decide +kernel
theorem d_Reader_readElement_92 : decode b_Reader_readElement 92 = .ok (.aload_n 0, 1) := by decide +kernel
theorem d_Reader_readElement_93 : decode b_Reader_readElement 93 = .ok (.iload_n 2, 1) := by decide +kernel
theorem d_Reader_readElement_94 : decode b_Reader_readElement 94 = .ok (.iload_n 3, 1) := by decide +kernel
theorem d_Reader_readElement_95 : decode b_Reader_readElement 95 = .ok (.iload_n 1, 1) := by decide +kernel
theorem d_Reader_readElement_96 : decode b_Reader_readElement 96 = .ok (.invokevirtual 76, 3) := by decide +kernel
theorem d_Reader_readElement_99 : decode b_Reader_readElement 99 = .ok (.return_, 1) := by decide +kernel
abbrev w_Reader_readElement {cI cJ cC cZ cR : ClassId} (a_r a_t a_g a_tc a_gb a_gr a_ge a_go a_gc : Nat) (rr_at : Int32) (rr_fault : Int32) (tt_length : Int32) (tt_ch : Nat → Int32) (gg_pieceCount : Int32) (gg_depth : Int32) (gg_ends : Int64) (gg_readersOf : Nat → Int64) : va_W := [(a_r, .inr (1, [.ref a_t, .ref a_g, .int rr_at, .int rr_fault])), (a_t, .inr (0, [.ref a_tc, .int tt_length])), (a_tc, .inl (cC, 40, .inl tt_ch)), (a_g, .inr (2, [.ref a_gb, .ref a_gr, .ref a_ge, .ref a_go, .ref a_gc, .int gg_pieceCount, .int gg_depth, .long gg_ends])), (a_gr, .inl (cJ, 95, .inr (.inl gg_readersOf)))]
def f_Reader_readElement (fu : Nat) (p1 : Int32) (rr_at : Int32) (rr_fault : Int32) (tt_length : Int32) (tt_ch : Nat → Int32) (gg_pieceCount : Int32) (gg_readersOf : Nat → Int64) : Option (Int32 × Int32 × (Nat → Int64)) := (Option.bind (f_Typed_characterAt rr_at tt_length tt_ch) fun r1 => (Option.bind (f_Reader_isElement r1) fun r3 => (Option.bind (f_Reader_pass r3 rr_at rr_fault) fun (yrr_at_5, yrr_fault_6) => (if yrr_fault_6 = (-1 : Int32) then (Option.bind (f_Typed_characterAt yrr_at_5 tt_length tt_ch) fun r12 => (if r12 = (45 : Int32) then (Option.bind (f_Reader_pass (1 : Int32) yrr_at_5 yrr_fault_6) fun (yrr_at_18, yrr_fault_19) => (Option.bind (f_Typed_characterAt yrr_at_18 tt_length tt_ch) fun r21 => (Option.bind (f_Reader_isElement r21) fun r23 => (if r23 = 0 then (Option.bind (f_Reader_pass (0 : Int32) yrr_at_18 yrr_fault_19) fun (yrr_at_26, yrr_fault_27) => (if yrr_fault_27 = (-1 : Int32) then (Option.bind (f_Reader_setReads fu r1 r21 p1 gg_pieceCount gg_readersOf) fun ygg_readersOf_30 => some (yrr_at_26, yrr_fault_27, ygg_readersOf_30)) else some (yrr_at_26, yrr_fault_27, gg_readersOf))) else (if r21 < r1 then (Option.bind (f_Reader_pass (0 : Int32) yrr_at_18 yrr_fault_19) fun (yrr_at_33, yrr_fault_34) => (if yrr_fault_34 = (-1 : Int32) then (Option.bind (f_Reader_setReads fu r1 r21 p1 gg_pieceCount gg_readersOf) fun ygg_readersOf_37 => some (yrr_at_33, yrr_fault_34, ygg_readersOf_37)) else some (yrr_at_33, yrr_fault_34, gg_readersOf))) else (Option.bind (f_Reader_pass (1 : Int32) yrr_at_18 yrr_fault_19) fun (yrr_at_39, yrr_fault_40) => (if yrr_fault_40 = (-1 : Int32) then (Option.bind (f_Reader_setReads fu r1 r21 p1 gg_pieceCount gg_readersOf) fun ygg_readersOf_43 => some (yrr_at_39, yrr_fault_40, ygg_readersOf_43)) else some (yrr_at_39, yrr_fault_40, gg_readersOf)))))))) else (if yrr_fault_6 = (-1 : Int32) then (Option.bind (f_Reader_setReads fu r1 r1 p1 gg_pieceCount gg_readersOf) fun ygg_readersOf_16 => some (yrr_at_5, yrr_fault_6, ygg_readersOf_16)) else some (yrr_at_5, yrr_fault_6, gg_readersOf)))) else (if yrr_fault_6 = (-1 : Int32) then (Option.bind (f_Reader_setReads fu r1 r1 p1 gg_pieceCount gg_readersOf) fun ygg_readersOf_10 => some (yrr_at_5, yrr_fault_6, ygg_readersOf_10)) else some (yrr_at_5, yrr_fault_6, gg_readersOf))))))
set_option maxRecDepth 100000 in
set_option maxHeartbeats 4000000 in
theorem c_Reader_readElement {l : Launch} {D : va_G} {cI cJ cC cZ cR : ClassId} (fu : Nat) (a_r a_t a_g a_tc a_gb a_gr a_ge a_go a_gc : Nat)   (rr_at : Int32) (rr_fault : Int32) (tt_length : Int32) (tt_ch : Nat → Int32) (gg_pieceCount : Int32) (gg_depth : Int32) (gg_ends : Int64) (gg_readersOf : Nat → Int64) (p1 : Int32) (o_rr_at : Int32) (o_rr_fault : Int32) (o_gg_readersOf : Nat → Int64) (h : f_Reader_readElement fu p1 rr_at rr_fault tt_length tt_ch gg_pieceCount gg_readersOf = some (o_rr_at, o_rr_fault, o_gg_readersOf)) : GM l D (tysL cI cJ cC cZ cR) y_Reader_readElement b_Reader_readElement 4 none { frames := 2, cells := 0, slots := 0, locals := 49 } [.ref a_r, .int p1] (w_Reader_readElement (cI := cI) (cJ := cJ) (cC := cC) (cZ := cZ) (cR := cR) a_r a_t a_g a_tc a_gb a_gr a_ge a_go a_gc rr_at rr_fault tt_length tt_ch gg_pieceCount gg_depth gg_ends gg_readersOf) (fun (o : Option Value) (w : va_W) => o = none ∧ w = w_Reader_readElement (cI := cI) (cJ := cJ) (cC := cC) (cZ := cZ) (cR := cR) a_r a_t a_g a_tc a_gb a_gr a_ge a_go a_gc o_rr_at o_rr_fault tt_length tt_ch gg_pieceCount gg_depth gg_ends o_gg_readersOf) := by
  refine GM.of (by decide) (Nat.le_of_ble_eq_true rfl) (lv := [(0, .ref a_r), (1, .int p1)]) rfl ?_
  intro X hX C
  subst hX
  refine k_aload_n C d_Reader_readElement_0 rfl 0 rfl rfl ?_
  refine k_getf C d_Reader_readElement_1 hin_Reader rfl 0 (by decide) mw88 0 rfl rfl rfl ?_
  refine k_aload_n C d_Reader_readElement_4 rfl 0 rfl rfl ?_
  refine k_getf C d_Reader_readElement_5 hin_Reader rfl 2 (by decide) mw80 0 rfl rfl rfl ?_
  obtain ⟨r1, hc2, h⟩ := bd h
  refine k_callVd (As := [.int rr_at]) (st := []) (st' := [.int r1]) (wn := w_Reader_readElement (cI := cI) (cJ := cJ) (cC := cC) (cZ := cZ) (cR := cR) a_r a_t a_g a_tc a_gb a_gr a_ge a_go a_gc rr_at rr_fault tt_length tt_ch gg_pieceCount gg_depth gg_ends gg_readersOf) C d_Reader_readElement_8 (c_Typed_characterAt fu a_t a_tc tt_length tt_ch rr_at r1 hc2) co_Typed_characterAt cov_Typed_characterAt mw89 1 rfl rfl (by decide) (by decide) (Nat.le_of_ble_eq_true rfl) rfl [1, 2] [0, 3, 4] [0, 3, 4, 1, 2] rfl (by decide +kernel) rfl (by decide +kernel) (by decide +kernel) rfl (by decide +kernel) rfl rfl ?_
  refine k_istore_n (lv' := [(2, .int r1), (0, .ref a_r), (1, .int p1)]) C d_Reader_readElement_11 rfl (by decide) rfl rfl ?_
  refine k_iload_n C d_Reader_readElement_12 rfl 0 rfl rfl ?_
  refine k_istore_n (lv' := [(3, .int r1), (2, .int r1), (0, .ref a_r), (1, .int p1)]) C d_Reader_readElement_13 rfl (by decide) rfl rfl ?_
  refine k_aload_n C d_Reader_readElement_14 rfl 2 rfl rfl ?_
  refine k_iload_n C d_Reader_readElement_15 rfl 1 rfl rfl ?_
  obtain ⟨r3, hc4, h⟩ := bd h
  refine k_callSd (As := [.int r1]) (st := [.ref a_r]) (st' := [.int r3, .ref a_r]) (wn := w_Reader_readElement (cI := cI) (cJ := cJ) (cC := cC) (cZ := cZ) (cR := cR) a_r a_t a_g a_tc a_gb a_gr a_ge a_go a_gc rr_at rr_fault tt_length tt_ch gg_pieceCount gg_depth gg_ends gg_readersOf) C d_Reader_readElement_16 (c_Reader_isElement fu r1 r3 hc4) co_Reader_isElement cos_Reader_isElement mw92 (by decide) (by decide) (Nat.le_of_ble_eq_true rfl) rfl [] [0, 1, 2, 3, 4] [0, 1, 2, 3, 4] rfl (by decide +kernel) rfl (by decide +kernel) (by decide +kernel) rfl (by decide +kernel) rfl rfl ?_
  obtain ⟨⟨yrr_at_5, yrr_fault_6⟩, hc7, h⟩ := bd h
  refine k_callVd (As := [.int r3]) (st := []) (st' := []) (wn := w_Reader_readElement (cI := cI) (cJ := cJ) (cC := cC) (cZ := cZ) (cR := cR) a_r a_t a_g a_tc a_gb a_gr a_ge a_go a_gc yrr_at_5 yrr_fault_6 tt_length tt_ch gg_pieceCount gg_depth gg_ends gg_readersOf) C d_Reader_readElement_19 (c_Reader_pass fu a_r a_t a_g rr_at rr_fault r3 yrr_at_5 yrr_fault_6 hc7) co_Reader_pass cov_Reader_pass mw90 0 rfl rfl (by decide) (by decide) (Nat.le_of_ble_eq_true rfl) rfl [0] [1, 2, 3, 4] [4, 0, 1, 2, 3] rfl (by decide +kernel) rfl (by decide +kernel) (by decide +kernel) rfl (by decide +kernel) rfl rfl ?_
  refine k_aload_n C d_Reader_readElement_22 rfl 2 rfl rfl ?_
  refine k_getf C d_Reader_readElement_23 hin_Reader rfl 3 (by decide) mw81 0 rfl rfl rfl ?_
  refine k_iconst C d_Reader_readElement_26 (v := (-1 : Int32)) (by decide) rfl ?_
  refine k_icmp_ne (tgt := 84) C d_Reader_readElement_27 (by decide) rfl (fun c8 => ?_) (fun c8 => ?_)
  · replace h := gi_f h c8
    refine k_aload_n C d_Reader_readElement_84 rfl 2 rfl rfl ?_
    refine k_getf C d_Reader_readElement_85 hin_Reader rfl 3 (by decide) mw81 0 rfl rfl rfl ?_
    refine k_iconst C d_Reader_readElement_88 (v := (-1 : Int32)) (by decide) rfl ?_
    refine k_icmp_ne (tgt := 99) C d_Reader_readElement_89 (by decide) rfl (fun c9 => ?_) (fun c9 => ?_)
    · replace h := gi_f h c9
      exact k_vret C d_Reader_readElement_99 (tr1 h (fun t => (fun (o : Option Value) (w : va_W) => o = none ∧ w = w_Reader_readElement (cI := cI) (cJ := cJ) (cC := cC) (cZ := cZ) (cR := cR) a_r a_t a_g a_tc a_gb a_gr a_ge a_go a_gc (t.1) (t.2.1) tt_length tt_ch gg_pieceCount gg_depth gg_ends (t.2.2)) none (w_Reader_readElement (cI := cI) (cJ := cJ) (cC := cC) (cZ := cZ) (cR := cR) a_r a_t a_g a_tc a_gb a_gr a_ge a_go a_gc yrr_at_5 yrr_fault_6 tt_length tt_ch gg_pieceCount gg_depth gg_ends gg_readersOf)) ⟨rfl, rfl⟩)
    · replace h := gi_t h c9
      refine k_aload_n C d_Reader_readElement_92 rfl 2 rfl rfl ?_
      refine k_iload_n C d_Reader_readElement_93 rfl 1 rfl rfl ?_
      refine k_iload_n C d_Reader_readElement_94 rfl 0 rfl rfl ?_
      refine k_iload_n C d_Reader_readElement_95 rfl 3 rfl rfl ?_
      obtain ⟨ygg_readersOf_10, hc11, h⟩ := bd h
      refine k_callVd (As := [.int r1, .int r1, .int p1]) (st := []) (st' := []) (wn := w_Reader_readElement (cI := cI) (cJ := cJ) (cC := cC) (cZ := cZ) (cR := cR) a_r a_t a_g a_tc a_gb a_gr a_ge a_go a_gc yrr_at_5 yrr_fault_6 tt_length tt_ch gg_pieceCount gg_depth gg_ends ygg_readersOf_10) C d_Reader_readElement_96 (c_Reader_setReads fu a_r a_t a_g a_gb a_gr a_ge a_go a_gc yrr_at_5 yrr_fault_6 gg_pieceCount gg_depth gg_ends gg_readersOf r1 r1 p1 ygg_readersOf_10 hc11) co_Reader_setReads cov_Reader_setReads mw87 0 rfl rfl (by decide) (by decide) (Nat.le_of_ble_eq_true rfl) rfl [0, 3, 4] [1, 2] [2, 0, 1, 3, 4] rfl (by decide +kernel) rfl (by decide +kernel) (by decide +kernel) rfl (by decide +kernel) rfl rfl ?_
      exact k_vret C d_Reader_readElement_99 (tr1 h (fun t => (fun (o : Option Value) (w : va_W) => o = none ∧ w = w_Reader_readElement (cI := cI) (cJ := cJ) (cC := cC) (cZ := cZ) (cR := cR) a_r a_t a_g a_tc a_gb a_gr a_ge a_go a_gc (t.1) (t.2.1) tt_length tt_ch gg_pieceCount gg_depth gg_ends (t.2.2)) none (w_Reader_readElement (cI := cI) (cJ := cJ) (cC := cC) (cZ := cZ) (cR := cR) a_r a_t a_g a_tc a_gb a_gr a_ge a_go a_gc yrr_at_5 yrr_fault_6 tt_length tt_ch gg_pieceCount gg_depth gg_ends ygg_readersOf_10)) ⟨rfl, rfl⟩)
  · replace h := gi_t h c8
    refine k_aload_n C d_Reader_readElement_30 rfl 2 rfl rfl ?_
    refine k_getf C d_Reader_readElement_31 hin_Reader rfl 0 (by decide) mw88 0 rfl rfl rfl ?_
    refine k_aload_n C d_Reader_readElement_34 rfl 2 rfl rfl ?_
    refine k_getf C d_Reader_readElement_35 hin_Reader rfl 2 (by decide) mw80 0 rfl rfl rfl ?_
    obtain ⟨r12, hc13, h⟩ := bd h
    refine k_callVd (As := [.int yrr_at_5]) (st := []) (st' := [.int r12]) (wn := w_Reader_readElement (cI := cI) (cJ := cJ) (cC := cC) (cZ := cZ) (cR := cR) a_r a_t a_g a_tc a_gb a_gr a_ge a_go a_gc yrr_at_5 yrr_fault_6 tt_length tt_ch gg_pieceCount gg_depth gg_ends gg_readersOf) C d_Reader_readElement_38 (c_Typed_characterAt fu a_t a_tc tt_length tt_ch yrr_at_5 r12 hc13) co_Typed_characterAt cov_Typed_characterAt mw89 1 rfl rfl (by decide) (by decide) (Nat.le_of_ble_eq_true rfl) rfl [1, 2] [0, 3, 4] [0, 3, 4, 1, 2] rfl (by decide +kernel) rfl (by decide +kernel) (by decide +kernel) rfl (by decide +kernel) rfl rfl ?_
    refine k_bipush C d_Reader_readElement_41 (v := (45 : Int32)) (by decide) rfl ?_
    refine k_icmp_ne (tgt := 84) C d_Reader_readElement_43 (by decide) rfl (fun c14 => ?_) (fun c14 => ?_)
    · replace h := gi_f h c14
      refine k_aload_n C d_Reader_readElement_84 rfl 2 rfl rfl ?_
      refine k_getf C d_Reader_readElement_85 hin_Reader rfl 3 (by decide) mw81 0 rfl rfl rfl ?_
      refine k_iconst C d_Reader_readElement_88 (v := (-1 : Int32)) (by decide) rfl ?_
      refine k_icmp_ne (tgt := 99) C d_Reader_readElement_89 (by decide) rfl (fun c15 => ?_) (fun c15 => ?_)
      · replace h := gi_f h c15
        exact k_vret C d_Reader_readElement_99 (tr1 h (fun t => (fun (o : Option Value) (w : va_W) => o = none ∧ w = w_Reader_readElement (cI := cI) (cJ := cJ) (cC := cC) (cZ := cZ) (cR := cR) a_r a_t a_g a_tc a_gb a_gr a_ge a_go a_gc (t.1) (t.2.1) tt_length tt_ch gg_pieceCount gg_depth gg_ends (t.2.2)) none (w_Reader_readElement (cI := cI) (cJ := cJ) (cC := cC) (cZ := cZ) (cR := cR) a_r a_t a_g a_tc a_gb a_gr a_ge a_go a_gc yrr_at_5 yrr_fault_6 tt_length tt_ch gg_pieceCount gg_depth gg_ends gg_readersOf)) ⟨rfl, rfl⟩)
      · replace h := gi_t h c15
        refine k_aload_n C d_Reader_readElement_92 rfl 2 rfl rfl ?_
        refine k_iload_n C d_Reader_readElement_93 rfl 1 rfl rfl ?_
        refine k_iload_n C d_Reader_readElement_94 rfl 0 rfl rfl ?_
        refine k_iload_n C d_Reader_readElement_95 rfl 3 rfl rfl ?_
        obtain ⟨ygg_readersOf_16, hc17, h⟩ := bd h
        refine k_callVd (As := [.int r1, .int r1, .int p1]) (st := []) (st' := []) (wn := w_Reader_readElement (cI := cI) (cJ := cJ) (cC := cC) (cZ := cZ) (cR := cR) a_r a_t a_g a_tc a_gb a_gr a_ge a_go a_gc yrr_at_5 yrr_fault_6 tt_length tt_ch gg_pieceCount gg_depth gg_ends ygg_readersOf_16) C d_Reader_readElement_96 (c_Reader_setReads fu a_r a_t a_g a_gb a_gr a_ge a_go a_gc yrr_at_5 yrr_fault_6 gg_pieceCount gg_depth gg_ends gg_readersOf r1 r1 p1 ygg_readersOf_16 hc17) co_Reader_setReads cov_Reader_setReads mw87 0 rfl rfl (by decide) (by decide) (Nat.le_of_ble_eq_true rfl) rfl [0, 3, 4] [1, 2] [2, 0, 1, 3, 4] rfl (by decide +kernel) rfl (by decide +kernel) (by decide +kernel) rfl (by decide +kernel) rfl rfl ?_
        exact k_vret C d_Reader_readElement_99 (tr1 h (fun t => (fun (o : Option Value) (w : va_W) => o = none ∧ w = w_Reader_readElement (cI := cI) (cJ := cJ) (cC := cC) (cZ := cZ) (cR := cR) a_r a_t a_g a_tc a_gb a_gr a_ge a_go a_gc (t.1) (t.2.1) tt_length tt_ch gg_pieceCount gg_depth gg_ends (t.2.2)) none (w_Reader_readElement (cI := cI) (cJ := cJ) (cC := cC) (cZ := cZ) (cR := cR) a_r a_t a_g a_tc a_gb a_gr a_ge a_go a_gc yrr_at_5 yrr_fault_6 tt_length tt_ch gg_pieceCount gg_depth gg_ends ygg_readersOf_16)) ⟨rfl, rfl⟩)
    · replace h := gi_t h c14
      refine k_aload_n C d_Reader_readElement_46 rfl 2 rfl rfl ?_
      refine k_iconst C d_Reader_readElement_47 (v := (1 : Int32)) (by decide) rfl ?_
      obtain ⟨⟨yrr_at_18, yrr_fault_19⟩, hc20, h⟩ := bd h
      refine k_callVd (As := [.int (1 : Int32)]) (st := []) (st' := []) (wn := w_Reader_readElement (cI := cI) (cJ := cJ) (cC := cC) (cZ := cZ) (cR := cR) a_r a_t a_g a_tc a_gb a_gr a_ge a_go a_gc yrr_at_18 yrr_fault_19 tt_length tt_ch gg_pieceCount gg_depth gg_ends gg_readersOf) C d_Reader_readElement_48 (c_Reader_pass fu a_r a_t a_g yrr_at_5 yrr_fault_6 (1 : Int32) yrr_at_18 yrr_fault_19 hc20) co_Reader_pass cov_Reader_pass mw90 0 rfl rfl (by decide) (by decide) (Nat.le_of_ble_eq_true rfl) rfl [0] [1, 2, 3, 4] [4, 0, 1, 2, 3] rfl (by decide +kernel) rfl (by decide +kernel) (by decide +kernel) rfl (by decide +kernel) rfl rfl ?_
      refine k_aload_n C d_Reader_readElement_51 rfl 2 rfl rfl ?_
      refine k_getf C d_Reader_readElement_52 hin_Reader rfl 0 (by decide) mw88 0 rfl rfl rfl ?_
      refine k_aload_n C d_Reader_readElement_55 rfl 2 rfl rfl ?_
      refine k_getf C d_Reader_readElement_56 hin_Reader rfl 2 (by decide) mw80 0 rfl rfl rfl ?_
      obtain ⟨r21, hc22, h⟩ := bd h
      refine k_callVd (As := [.int yrr_at_18]) (st := []) (st' := [.int r21]) (wn := w_Reader_readElement (cI := cI) (cJ := cJ) (cC := cC) (cZ := cZ) (cR := cR) a_r a_t a_g a_tc a_gb a_gr a_ge a_go a_gc yrr_at_18 yrr_fault_19 tt_length tt_ch gg_pieceCount gg_depth gg_ends gg_readersOf) C d_Reader_readElement_59 (c_Typed_characterAt fu a_t a_tc tt_length tt_ch yrr_at_18 r21 hc22) co_Typed_characterAt cov_Typed_characterAt mw89 1 rfl rfl (by decide) (by decide) (Nat.le_of_ble_eq_true rfl) rfl [1, 2] [0, 3, 4] [0, 3, 4, 1, 2] rfl (by decide +kernel) rfl (by decide +kernel) (by decide +kernel) rfl (by decide +kernel) rfl rfl ?_
      refine k_istore_n (lv' := [(3, .int r21), (2, .int r1), (0, .ref a_r), (1, .int p1)]) C d_Reader_readElement_62 rfl (by decide) rfl rfl ?_
      refine k_aload_n C d_Reader_readElement_63 rfl 2 rfl rfl ?_
      refine k_iload_n C d_Reader_readElement_64 rfl 0 rfl rfl ?_
      obtain ⟨r23, hc24, h⟩ := bd h
      refine k_callSd (As := [.int r21]) (st := [.ref a_r]) (st' := [.int r23, .ref a_r]) (wn := w_Reader_readElement (cI := cI) (cJ := cJ) (cC := cC) (cZ := cZ) (cR := cR) a_r a_t a_g a_tc a_gb a_gr a_ge a_go a_gc yrr_at_18 yrr_fault_19 tt_length tt_ch gg_pieceCount gg_depth gg_ends gg_readersOf) C d_Reader_readElement_65 (c_Reader_isElement fu r21 r23 hc24) co_Reader_isElement cos_Reader_isElement mw92 (by decide) (by decide) (Nat.le_of_ble_eq_true rfl) rfl [] [0, 1, 2, 3, 4] [0, 1, 2, 3, 4] rfl (by decide +kernel) rfl (by decide +kernel) (by decide +kernel) rfl (by decide +kernel) rfl rfl ?_
      refine k_if_eq (tgt := 80) C d_Reader_readElement_68 (by decide) rfl (fun c25 => ?_) (fun c25 => ?_)
      · replace h := gi_t h c25
        refine k_iconst C d_Reader_readElement_80 (v := (0 : Int32)) (by decide) rfl ?_
        obtain ⟨⟨yrr_at_26, yrr_fault_27⟩, hc28, h⟩ := bd h
        refine k_callVd (As := [.int (0 : Int32)]) (st := []) (st' := []) (wn := w_Reader_readElement (cI := cI) (cJ := cJ) (cC := cC) (cZ := cZ) (cR := cR) a_r a_t a_g a_tc a_gb a_gr a_ge a_go a_gc yrr_at_26 yrr_fault_27 tt_length tt_ch gg_pieceCount gg_depth gg_ends gg_readersOf) C d_Reader_readElement_81 (c_Reader_pass fu a_r a_t a_g yrr_at_18 yrr_fault_19 (0 : Int32) yrr_at_26 yrr_fault_27 hc28) co_Reader_pass cov_Reader_pass mw90 0 rfl rfl (by decide) (by decide) (Nat.le_of_ble_eq_true rfl) rfl [0] [1, 2, 3, 4] [4, 0, 1, 2, 3] rfl (by decide +kernel) rfl (by decide +kernel) (by decide +kernel) rfl (by decide +kernel) rfl rfl ?_
        refine k_aload_n C d_Reader_readElement_84 rfl 2 rfl rfl ?_
        refine k_getf C d_Reader_readElement_85 hin_Reader rfl 3 (by decide) mw81 0 rfl rfl rfl ?_
        refine k_iconst C d_Reader_readElement_88 (v := (-1 : Int32)) (by decide) rfl ?_
        refine k_icmp_ne (tgt := 99) C d_Reader_readElement_89 (by decide) rfl (fun c29 => ?_) (fun c29 => ?_)
        · replace h := gi_f h c29
          exact k_vret C d_Reader_readElement_99 (tr1 h (fun t => (fun (o : Option Value) (w : va_W) => o = none ∧ w = w_Reader_readElement (cI := cI) (cJ := cJ) (cC := cC) (cZ := cZ) (cR := cR) a_r a_t a_g a_tc a_gb a_gr a_ge a_go a_gc (t.1) (t.2.1) tt_length tt_ch gg_pieceCount gg_depth gg_ends (t.2.2)) none (w_Reader_readElement (cI := cI) (cJ := cJ) (cC := cC) (cZ := cZ) (cR := cR) a_r a_t a_g a_tc a_gb a_gr a_ge a_go a_gc yrr_at_26 yrr_fault_27 tt_length tt_ch gg_pieceCount gg_depth gg_ends gg_readersOf)) ⟨rfl, rfl⟩)
        · replace h := gi_t h c29
          refine k_aload_n C d_Reader_readElement_92 rfl 2 rfl rfl ?_
          refine k_iload_n C d_Reader_readElement_93 rfl 1 rfl rfl ?_
          refine k_iload_n C d_Reader_readElement_94 rfl 0 rfl rfl ?_
          refine k_iload_n C d_Reader_readElement_95 rfl 3 rfl rfl ?_
          obtain ⟨ygg_readersOf_30, hc31, h⟩ := bd h
          refine k_callVd (As := [.int r1, .int r21, .int p1]) (st := []) (st' := []) (wn := w_Reader_readElement (cI := cI) (cJ := cJ) (cC := cC) (cZ := cZ) (cR := cR) a_r a_t a_g a_tc a_gb a_gr a_ge a_go a_gc yrr_at_26 yrr_fault_27 tt_length tt_ch gg_pieceCount gg_depth gg_ends ygg_readersOf_30) C d_Reader_readElement_96 (c_Reader_setReads fu a_r a_t a_g a_gb a_gr a_ge a_go a_gc yrr_at_26 yrr_fault_27 gg_pieceCount gg_depth gg_ends gg_readersOf r1 r21 p1 ygg_readersOf_30 hc31) co_Reader_setReads cov_Reader_setReads mw87 0 rfl rfl (by decide) (by decide) (Nat.le_of_ble_eq_true rfl) rfl [0, 3, 4] [1, 2] [2, 0, 1, 3, 4] rfl (by decide +kernel) rfl (by decide +kernel) (by decide +kernel) rfl (by decide +kernel) rfl rfl ?_
          exact k_vret C d_Reader_readElement_99 (tr1 h (fun t => (fun (o : Option Value) (w : va_W) => o = none ∧ w = w_Reader_readElement (cI := cI) (cJ := cJ) (cC := cC) (cZ := cZ) (cR := cR) a_r a_t a_g a_tc a_gb a_gr a_ge a_go a_gc (t.1) (t.2.1) tt_length tt_ch gg_pieceCount gg_depth gg_ends (t.2.2)) none (w_Reader_readElement (cI := cI) (cJ := cJ) (cC := cC) (cZ := cZ) (cR := cR) a_r a_t a_g a_tc a_gb a_gr a_ge a_go a_gc yrr_at_26 yrr_fault_27 tt_length tt_ch gg_pieceCount gg_depth gg_ends ygg_readersOf_30)) ⟨rfl, rfl⟩)
      · replace h := gi_f h c25
        refine k_iload_n C d_Reader_readElement_71 rfl 1 rfl rfl ?_
        refine k_iload_n C d_Reader_readElement_72 rfl 0 rfl rfl ?_
        refine k_icmp_gt (tgt := 80) C d_Reader_readElement_73 (by decide) rfl (fun c32 => ?_) (fun c32 => ?_)
        · replace h := gi_t h c32
          refine k_iconst C d_Reader_readElement_80 (v := (0 : Int32)) (by decide) rfl ?_
          obtain ⟨⟨yrr_at_33, yrr_fault_34⟩, hc35, h⟩ := bd h
          refine k_callVd (As := [.int (0 : Int32)]) (st := []) (st' := []) (wn := w_Reader_readElement (cI := cI) (cJ := cJ) (cC := cC) (cZ := cZ) (cR := cR) a_r a_t a_g a_tc a_gb a_gr a_ge a_go a_gc yrr_at_33 yrr_fault_34 tt_length tt_ch gg_pieceCount gg_depth gg_ends gg_readersOf) C d_Reader_readElement_81 (c_Reader_pass fu a_r a_t a_g yrr_at_18 yrr_fault_19 (0 : Int32) yrr_at_33 yrr_fault_34 hc35) co_Reader_pass cov_Reader_pass mw90 0 rfl rfl (by decide) (by decide) (Nat.le_of_ble_eq_true rfl) rfl [0] [1, 2, 3, 4] [4, 0, 1, 2, 3] rfl (by decide +kernel) rfl (by decide +kernel) (by decide +kernel) rfl (by decide +kernel) rfl rfl ?_
          refine k_aload_n C d_Reader_readElement_84 rfl 2 rfl rfl ?_
          refine k_getf C d_Reader_readElement_85 hin_Reader rfl 3 (by decide) mw81 0 rfl rfl rfl ?_
          refine k_iconst C d_Reader_readElement_88 (v := (-1 : Int32)) (by decide) rfl ?_
          refine k_icmp_ne (tgt := 99) C d_Reader_readElement_89 (by decide) rfl (fun c36 => ?_) (fun c36 => ?_)
          · replace h := gi_f h c36
            exact k_vret C d_Reader_readElement_99 (tr1 h (fun t => (fun (o : Option Value) (w : va_W) => o = none ∧ w = w_Reader_readElement (cI := cI) (cJ := cJ) (cC := cC) (cZ := cZ) (cR := cR) a_r a_t a_g a_tc a_gb a_gr a_ge a_go a_gc (t.1) (t.2.1) tt_length tt_ch gg_pieceCount gg_depth gg_ends (t.2.2)) none (w_Reader_readElement (cI := cI) (cJ := cJ) (cC := cC) (cZ := cZ) (cR := cR) a_r a_t a_g a_tc a_gb a_gr a_ge a_go a_gc yrr_at_33 yrr_fault_34 tt_length tt_ch gg_pieceCount gg_depth gg_ends gg_readersOf)) ⟨rfl, rfl⟩)
          · replace h := gi_t h c36
            refine k_aload_n C d_Reader_readElement_92 rfl 2 rfl rfl ?_
            refine k_iload_n C d_Reader_readElement_93 rfl 1 rfl rfl ?_
            refine k_iload_n C d_Reader_readElement_94 rfl 0 rfl rfl ?_
            refine k_iload_n C d_Reader_readElement_95 rfl 3 rfl rfl ?_
            obtain ⟨ygg_readersOf_37, hc38, h⟩ := bd h
            refine k_callVd (As := [.int r1, .int r21, .int p1]) (st := []) (st' := []) (wn := w_Reader_readElement (cI := cI) (cJ := cJ) (cC := cC) (cZ := cZ) (cR := cR) a_r a_t a_g a_tc a_gb a_gr a_ge a_go a_gc yrr_at_33 yrr_fault_34 tt_length tt_ch gg_pieceCount gg_depth gg_ends ygg_readersOf_37) C d_Reader_readElement_96 (c_Reader_setReads fu a_r a_t a_g a_gb a_gr a_ge a_go a_gc yrr_at_33 yrr_fault_34 gg_pieceCount gg_depth gg_ends gg_readersOf r1 r21 p1 ygg_readersOf_37 hc38) co_Reader_setReads cov_Reader_setReads mw87 0 rfl rfl (by decide) (by decide) (Nat.le_of_ble_eq_true rfl) rfl [0, 3, 4] [1, 2] [2, 0, 1, 3, 4] rfl (by decide +kernel) rfl (by decide +kernel) (by decide +kernel) rfl (by decide +kernel) rfl rfl ?_
            exact k_vret C d_Reader_readElement_99 (tr1 h (fun t => (fun (o : Option Value) (w : va_W) => o = none ∧ w = w_Reader_readElement (cI := cI) (cJ := cJ) (cC := cC) (cZ := cZ) (cR := cR) a_r a_t a_g a_tc a_gb a_gr a_ge a_go a_gc (t.1) (t.2.1) tt_length tt_ch gg_pieceCount gg_depth gg_ends (t.2.2)) none (w_Reader_readElement (cI := cI) (cJ := cJ) (cC := cC) (cZ := cZ) (cR := cR) a_r a_t a_g a_tc a_gb a_gr a_ge a_go a_gc yrr_at_33 yrr_fault_34 tt_length tt_ch gg_pieceCount gg_depth gg_ends ygg_readersOf_37)) ⟨rfl, rfl⟩)
        · replace h := gi_f h c32
          refine k_iconst C d_Reader_readElement_76 (v := (1 : Int32)) (by decide) rfl ?_
          refine k_goto (tgt := 81) C d_Reader_readElement_77 (by decide) ?_
          obtain ⟨⟨yrr_at_39, yrr_fault_40⟩, hc41, h⟩ := bd h
          refine k_callVd (As := [.int (1 : Int32)]) (st := []) (st' := []) (wn := w_Reader_readElement (cI := cI) (cJ := cJ) (cC := cC) (cZ := cZ) (cR := cR) a_r a_t a_g a_tc a_gb a_gr a_ge a_go a_gc yrr_at_39 yrr_fault_40 tt_length tt_ch gg_pieceCount gg_depth gg_ends gg_readersOf) C d_Reader_readElement_81 (c_Reader_pass fu a_r a_t a_g yrr_at_18 yrr_fault_19 (1 : Int32) yrr_at_39 yrr_fault_40 hc41) co_Reader_pass cov_Reader_pass mw90 0 rfl rfl (by decide) (by decide) (Nat.le_of_ble_eq_true rfl) rfl [0] [1, 2, 3, 4] [4, 0, 1, 2, 3] rfl (by decide +kernel) rfl (by decide +kernel) (by decide +kernel) rfl (by decide +kernel) rfl rfl ?_
          refine k_aload_n C d_Reader_readElement_84 rfl 2 rfl rfl ?_
          refine k_getf C d_Reader_readElement_85 hin_Reader rfl 3 (by decide) mw81 0 rfl rfl rfl ?_
          refine k_iconst C d_Reader_readElement_88 (v := (-1 : Int32)) (by decide) rfl ?_
          refine k_icmp_ne (tgt := 99) C d_Reader_readElement_89 (by decide) rfl (fun c42 => ?_) (fun c42 => ?_)
          · replace h := gi_f h c42
            exact k_vret C d_Reader_readElement_99 (tr1 h (fun t => (fun (o : Option Value) (w : va_W) => o = none ∧ w = w_Reader_readElement (cI := cI) (cJ := cJ) (cC := cC) (cZ := cZ) (cR := cR) a_r a_t a_g a_tc a_gb a_gr a_ge a_go a_gc (t.1) (t.2.1) tt_length tt_ch gg_pieceCount gg_depth gg_ends (t.2.2)) none (w_Reader_readElement (cI := cI) (cJ := cJ) (cC := cC) (cZ := cZ) (cR := cR) a_r a_t a_g a_tc a_gb a_gr a_ge a_go a_gc yrr_at_39 yrr_fault_40 tt_length tt_ch gg_pieceCount gg_depth gg_ends gg_readersOf)) ⟨rfl, rfl⟩)
          · replace h := gi_t h c42
            refine k_aload_n C d_Reader_readElement_92 rfl 2 rfl rfl ?_
            refine k_iload_n C d_Reader_readElement_93 rfl 1 rfl rfl ?_
            refine k_iload_n C d_Reader_readElement_94 rfl 0 rfl rfl ?_
            refine k_iload_n C d_Reader_readElement_95 rfl 3 rfl rfl ?_
            obtain ⟨ygg_readersOf_43, hc44, h⟩ := bd h
            refine k_callVd (As := [.int r1, .int r21, .int p1]) (st := []) (st' := []) (wn := w_Reader_readElement (cI := cI) (cJ := cJ) (cC := cC) (cZ := cZ) (cR := cR) a_r a_t a_g a_tc a_gb a_gr a_ge a_go a_gc yrr_at_39 yrr_fault_40 tt_length tt_ch gg_pieceCount gg_depth gg_ends ygg_readersOf_43) C d_Reader_readElement_96 (c_Reader_setReads fu a_r a_t a_g a_gb a_gr a_ge a_go a_gc yrr_at_39 yrr_fault_40 gg_pieceCount gg_depth gg_ends gg_readersOf r1 r21 p1 ygg_readersOf_43 hc44) co_Reader_setReads cov_Reader_setReads mw87 0 rfl rfl (by decide) (by decide) (Nat.le_of_ble_eq_true rfl) rfl [0, 3, 4] [1, 2] [2, 0, 1, 3, 4] rfl (by decide +kernel) rfl (by decide +kernel) (by decide +kernel) rfl (by decide +kernel) rfl rfl ?_
            exact k_vret C d_Reader_readElement_99 (tr1 h (fun t => (fun (o : Option Value) (w : va_W) => o = none ∧ w = w_Reader_readElement (cI := cI) (cJ := cJ) (cC := cC) (cZ := cZ) (cR := cR) a_r a_t a_g a_tc a_gb a_gr a_ge a_go a_gc (t.1) (t.2.1) tt_length tt_ch gg_pieceCount gg_depth gg_ends (t.2.2)) none (w_Reader_readElement (cI := cI) (cJ := cJ) (cC := cC) (cZ := cZ) (cR := cR) a_r a_t a_g a_tc a_gb a_gr a_ge a_go a_gc yrr_at_39 yrr_fault_40 tt_length tt_ch gg_pieceCount gg_depth gg_ends ygg_readersOf_43)) ⟨rfl, rfl⟩)
theorem d_Reader_readBrackets_0 : decode b_Reader_readBrackets 0 = .ok (.aload_n 0, 1) := by decide +kernel
theorem d_Reader_readBrackets_1 : decode b_Reader_readBrackets 1 = .ok (.iconst 1, 1) := by decide +kernel
theorem d_Reader_readBrackets_2 : decode b_Reader_readBrackets 2 = .ok (.invokevirtual 51, 3) := by decide +kernel
theorem d_Reader_readBrackets_5 : decode b_Reader_readBrackets 5 = .ok (.aload_n 0, 1) := by decide +kernel
theorem d_Reader_readBrackets_6 : decode b_Reader_readBrackets 6 = .ok (.getfield 12, 3) := by decide +kernel
theorem d_Reader_readBrackets_9 : decode b_Reader_readBrackets 9 = .ok (.iconst 0, 1) := by decide +kernel
theorem d_Reader_readBrackets_10 : decode b_Reader_readBrackets 10 = .ok (.invokevirtual 73, 3) := by decide +kernel
theorem d_Reader_readBrackets_13 : decode b_Reader_readBrackets 13 = .ok (.aload_n 0, 1) := by decide +kernel
theorem d_Reader_readBrackets_14 : decode b_Reader_readBrackets 14 = .ok (.getfield 18, 3) := by decide +kernel
theorem d_Reader_readBrackets_17 : decode b_Reader_readBrackets 17 = .ok (.aload_n 0, 1) := by decide +kernel
theorem d_Reader_readBrackets_18 : decode b_Reader_readBrackets 18 = .ok (.getfield 22, 3) := by decide +kernel
theorem d_Reader_readBrackets_21 : decode b_Reader_readBrackets 21 = .ok (.invokevirtual 44, 3) := by decide +kernel
theorem d_Reader_readBrackets_24 : decode b_Reader_readBrackets 24 = .ok (.bipush 94, 2) := by decide +kernel
theorem d_Reader_readBrackets_26 : decode b_Reader_readBrackets 26 = .ok (.if_icmp .ne 7, 3) := by decide +kernel
theorem d_Reader_readBrackets_29 : decode b_Reader_readBrackets 29 = .ok (.iconst 1, 1) := by decide +kernel
theorem d_Reader_readBrackets_30 : decode b_Reader_readBrackets 30 = .ok (.goto 4, 3) := by decide +kernel
theorem d_Reader_readBrackets_33 : decode b_Reader_readBrackets 33 = .ok (.iconst 0, 1) := by decide +kernel
theorem d_Reader_readBrackets_34 : decode b_Reader_readBrackets 34 = .ok (.istore_n 1, 1) := by decide +kernel
theorem d_Reader_readBrackets_35 : decode b_Reader_readBrackets 35 = .ok (.iload_n 1, 1) := by decide +kernel
theorem d_Reader_readBrackets_36 : decode b_Reader_readBrackets 36 = .ok (.ifCond .eq 12, 3) := by decide +kernel
theorem d_Reader_readBrackets_39 : decode b_Reader_readBrackets 39 = .ok (.aload_n 0, 1) := by decide +kernel
theorem d_Reader_readBrackets_40 : decode b_Reader_readBrackets 40 = .ok (.invokevirtual 80, 3) := by decide +kernel
theorem d_Reader_readBrackets_43 : decode b_Reader_readBrackets 43 = .ok (.aload_n 0, 1) := by decide +kernel
theorem d_Reader_readBrackets_44 : decode b_Reader_readBrackets 44 = .ok (.iconst 1, 1) := by decide +kernel
theorem d_Reader_readBrackets_45 : decode b_Reader_readBrackets 45 = .ok (.invokevirtual 51, 3) := by decide +kernel
theorem d_Reader_readBrackets_48 : decode b_Reader_readBrackets 48 = .ok (.iconst 0, 1) := by decide +kernel
theorem d_Reader_readBrackets_49 : decode b_Reader_readBrackets 49 = .ok (.istore_n 2, 1) := by decide +kernel
theorem d_Reader_readBrackets_50 : decode b_Reader_readBrackets 50 = .ok (.iload_n 2, 1) := by decide +kernel
theorem d_Reader_readBrackets_51 : decode b_Reader_readBrackets 51 = .ok (.bipush 40, 2) := by decide +kernel
theorem d_Reader_readBrackets_53 : decode b_Reader_readBrackets 53 = .ok (.if_icmp .ge 53, 3) := by decide +kernel
theorem d_Reader_readBrackets_56 : decode b_Reader_readBrackets 56 = .ok (.aload_n 0, 1) := by decide +kernel
theorem d_Reader_readBrackets_57 : decode b_Reader_readBrackets 57 = .ok (.getfield 26, 3) := by decide +kernel
theorem d_Reader_readBrackets_60 : decode b_Reader_readBrackets 60 = .ok (.iconst (-1), 1) := by decide +kernel
theorem d_Reader_readBrackets_61 : decode b_Reader_readBrackets 61 = .ok (.if_icmp .ne 45, 3) := by decide +kernel
theorem d_Reader_readBrackets_64 : decode b_Reader_readBrackets 64 = .ok (.iload_n 2, 1) := by decide +kernel
theorem d_Reader_readBrackets_65 : decode b_Reader_readBrackets 65 = .ok (.ifCond .le 22, 3) := by decide +kernel
theorem d_Reader_readBrackets_68 : decode b_Reader_readBrackets 68 = .ok (.aload_n 0, 1) := by decide +kernel
theorem d_Reader_readBrackets_69 : decode b_Reader_readBrackets 69 = .ok (.getfield 18, 3) := by decide +kernel
theorem d_Reader_readBrackets_72 : decode b_Reader_readBrackets 72 = .ok (.aload_n 0, 1) := by decide +kernel
theorem d_Reader_readBrackets_73 : decode b_Reader_readBrackets 73 = .ok (.getfield 22, 3) := by decide +kernel
theorem d_Reader_readBrackets_76 : decode b_Reader_readBrackets 76 = .ok (.invokevirtual 44, 3) := by decide +kernel
theorem d_Reader_readBrackets_79 : decode b_Reader_readBrackets 79 = .ok (.bipush 93, 2) := by decide +kernel
theorem d_Reader_readBrackets_81 : decode b_Reader_readBrackets 81 = .ok (.if_icmp .ne 6, 3) := by decide +kernel
theorem d_Reader_readBrackets_84 : decode b_Reader_readBrackets 84 = .ok (.goto 22, 3) := by decide +kernel
theorem d_Reader_readBrackets_87 : decode b_Reader_readBrackets 87 = .ok (.aload_n 0, 1) := by decide +kernel
theorem d_Reader_readBrackets_88 : decode b_Reader_readBrackets 88 = .ok (.iload_n 1, 1) := by decide +kernel
theorem d_Reader_readBrackets_89 : decode b_Reader_readBrackets 89 = .ok (.ifCond .ne 7, 3) := by decide +kernel
theorem d_Reader_readBrackets_92 : decode b_Reader_readBrackets 92 = .ok (.iconst 1, 1) := by decide +kernel
theorem d_Reader_readBrackets_93 : decode b_Reader_readBrackets 93 = .ok (.goto 4, 3) := by decide +kernel
theorem d_Reader_readBrackets_96 : decode b_Reader_readBrackets 96 = .ok (.iconst 0, 1) := by decide +kernel
theorem d_Reader_readBrackets_97 : decode b_Reader_readBrackets 97 = .ok (.invokevirtual 83, 3) := by decide +kernel
theorem d_Reader_readBrackets_100 : decode b_Reader_readBrackets 100 = .ok (.iinc 2 1, 3) := by decide +kernel
theorem d_Reader_readBrackets_103 : decode b_Reader_readBrackets 103 = .ok (.goto (-53), 3) := by decide +kernel
theorem d_Reader_readBrackets_106 : decode b_Reader_readBrackets 106 = .ok (.aload_n 0, 1) := by decide +kernel
theorem d_Reader_readBrackets_107 : decode b_Reader_readBrackets 107 = .ok (.getfield 26, 3) := by decide +kernel
theorem d_Reader_readBrackets_110 : decode b_Reader_readBrackets 110 = .ok (.iconst (-1), 1) := by decide +kernel
theorem d_Reader_readBrackets_111 : decode b_Reader_readBrackets 111 = .ok (.if_icmp .ne 37, 3) := by decide +kernel
theorem d_Reader_readBrackets_114 : decode b_Reader_readBrackets 114 = .ok (.aload_n 0, 1) := by decide +kernel
theorem d_Reader_readBrackets_115 : decode b_Reader_readBrackets 115 = .ok (.bipush 47, 2) := by decide +kernel
theorem d_Reader_readBrackets_117 : decode b_Reader_readBrackets 117 = .ok (.bipush 47, 2) := by decide +kernel
theorem d_Reader_readBrackets_119 : decode b_Reader_readBrackets 119 = .ok (.iconst 0, 1) := by decide +kernel
theorem d_Reader_readBrackets_120 : decode b_Reader_readBrackets 120 = .ok (.invokevirtual 76, 3) := by decide +kernel
theorem d_Reader_readBrackets_123 : decode b_Reader_readBrackets 123 = .ok (.aload_n 0, 1) := by decide +kernel
theorem d_Reader_readBrackets_124 : decode b_Reader_readBrackets 124 = .ok (.aload_n 0, 1) := by decide +kernel
theorem d_Reader_readBrackets_125 : decode b_Reader_readBrackets 125 = .ok (.getfield 18, 3) := by decide +kernel
theorem d_Reader_readBrackets_128 : decode b_Reader_readBrackets 128 = .ok (.aload_n 0, 1) := by decide +kernel
theorem d_Reader_readBrackets_129 : decode b_Reader_readBrackets 129 = .ok (.getfield 22, 3) := by decide +kernel
theorem d_Reader_readBrackets_132 : decode b_Reader_readBrackets 132 = .ok (.invokevirtual 44, 3) := by decide +kernel
theorem d_Reader_readBrackets_135 : decode b_Reader_readBrackets 135 = .ok (.bipush 93, 2) := by decide +kernel
theorem d_Reader_readBrackets_137 : decode b_Reader_readBrackets 137 = .ok (.if_icmp .ne 7, 3) := by decide +kernel
theorem d_Reader_readBrackets_140 : decode b_Reader_readBrackets 140 = .ok (.iconst 1, 1) := by decide +kernel
theorem d_Reader_readBrackets_141 : decode b_Reader_readBrackets 141 = .ok (.goto 4, 3) := by decide +kernel
theorem d_Reader_readBrackets_144 : decode b_Reader_readBrackets 144 = .ok (.iconst 0, 1) := by decide +kernel
theorem d_Reader_readBrackets_145 : decode b_Reader_readBrackets 145 = .ok (.invokevirtual 51, 3) := by decide +kernel
theorem d_Reader_readBrackets_148 : decode b_Reader_readBrackets 148 = .ok (.return_, 1) := by decide +kernel
abbrev w_Reader_readBrackets {cI cJ cC cZ cR : ClassId} (a_r a_t a_g a_tc a_gb a_gr a_ge a_go a_gc : Nat) (rr_at : Int32) (rr_fault : Int32) (tt_length : Int32) (tt_ch : Nat → Int32) (gg_pieceCount : Int32) (gg_depth : Int32) (gg_ends : Int64) (gg_behind : Nat → Int64) (gg_readersOf : Nat → Int64) : va_W := [(a_r, .inr (1, [.ref a_t, .ref a_g, .int rr_at, .int rr_fault])), (a_t, .inr (0, [.ref a_tc, .int tt_length])), (a_tc, .inl (cC, 40, .inl tt_ch)), (a_g, .inr (2, [.ref a_gb, .ref a_gr, .ref a_ge, .ref a_go, .ref a_gc, .int gg_pieceCount, .int gg_depth, .long gg_ends])), (a_gb, .inl (cJ, 41, .inr (.inl gg_behind))), (a_gr, .inl (cJ, 95, .inr (.inl gg_readersOf)))]
def f_Reader_readBrackets_J106 (tt_length : Int32) (tt_ch : Nat → Int32) (fu : Nat) (rr_at_j106 : Int32) (rr_fault_j106 : Int32) (gg_pieceCount_j106 : Int32) (gg_ends_j106 : Int64) (gg_behind_j106 : Nat → Int64) (gg_readersOf_j106 : Nat → Int64) : Option (Int32 × Int32 × Int32 × Int64 × (Nat → Int64) × (Nat → Int64)) := (if rr_fault_j106 = (-1 : Int32) then (Option.bind (f_Reader_setReads fu (47 : Int32) (47 : Int32) (0 : Int32) gg_pieceCount_j106 gg_readersOf_j106) fun ygg_readersOf_2 => (Option.bind (f_Typed_characterAt rr_at_j106 tt_length tt_ch) fun r4 => (if r4 = (93 : Int32) then (Option.bind (f_Reader_pass (1 : Int32) rr_at_j106 rr_fault_j106) fun (yrr_at_10, yrr_fault_11) => some (yrr_at_10, yrr_fault_11, gg_pieceCount_j106, gg_ends_j106, gg_behind_j106, ygg_readersOf_2)) else (Option.bind (f_Reader_pass (0 : Int32) rr_at_j106 rr_fault_j106) fun (yrr_at_7, yrr_fault_8) => some (yrr_at_7, yrr_fault_8, gg_pieceCount_j106, gg_ends_j106, gg_behind_j106, ygg_readersOf_2))))) else some (rr_at_j106, rr_fault_j106, gg_pieceCount_j106, gg_ends_j106, gg_behind_j106, gg_readersOf_j106))
def f_Reader_readBrackets_L50 (tt_length : Int32) (tt_ch : Nat → Int32) (l1_j48 : Int32) (gg_pieceCount_j48 : Int32) (fu : Nat) (kk50_0 : Int32 → Int32 → Int32 → (Nat → Int64) → Option (Int32 × Int32 × Int32 × Int64 × (Nat → Int64) × (Nat → Int64))) (kk50_1 : Int32 → Int32 → Int32 → (Nat → Int64) → Option (Int32 × Int32 × Int32 × Int64 × (Nat → Int64) × (Nat → Int64))) : Nat → Int32 → Int32 → Int32 → (Nat → Int64) → Option (Int32 × Int32 × Int32 × Int64 × (Nat → Int64) × (Nat → Int64))
  | 0, _, _, _, _ => none
  | n_50 + 1, l2_50, rr_at_50, rr_fault_50, gg_readersOf_50 => (if (40 : Int32) ≤ l2_50 then (kk50_0 l2_50 rr_at_50 rr_fault_50 gg_readersOf_50) else (if rr_fault_50 = (-1 : Int32) then (if l2_50 ≤ 0 then (if l1_j48 = 0 then (Option.bind (f_Reader_readElement fu (1 : Int32) rr_at_50 rr_fault_50 tt_length tt_ch gg_pieceCount_j48 gg_readersOf_50) fun (yrr_at_21, yrr_fault_22, ygg_readersOf_23) => ((fun l2_50 rr_at_50 rr_fault_50 gg_readersOf_50 => f_Reader_readBrackets_L50 tt_length tt_ch l1_j48 gg_pieceCount_j48 fu kk50_0 kk50_1 n_50 l2_50 rr_at_50 rr_fault_50 gg_readersOf_50) (l2_50 + 1) yrr_at_21 yrr_fault_22 ygg_readersOf_23)) else (Option.bind (f_Reader_readElement fu (0 : Int32) rr_at_50 rr_fault_50 tt_length tt_ch gg_pieceCount_j48 gg_readersOf_50) fun (yrr_at_17, yrr_fault_18, ygg_readersOf_19) => ((fun l2_50 rr_at_50 rr_fault_50 gg_readersOf_50 => f_Reader_readBrackets_L50 tt_length tt_ch l1_j48 gg_pieceCount_j48 fu kk50_0 kk50_1 n_50 l2_50 rr_at_50 rr_fault_50 gg_readersOf_50) (l2_50 + 1) yrr_at_17 yrr_fault_18 ygg_readersOf_19))) else (Option.bind (f_Typed_characterAt rr_at_50 tt_length tt_ch) fun r25 => (if r25 = (93 : Int32) then (kk50_1 l2_50 rr_at_50 rr_fault_50 gg_readersOf_50) else (if l1_j48 = 0 then (Option.bind (f_Reader_readElement fu (1 : Int32) rr_at_50 rr_fault_50 tt_length tt_ch gg_pieceCount_j48 gg_readersOf_50) fun (yrr_at_33, yrr_fault_34, ygg_readersOf_35) => ((fun l2_50 rr_at_50 rr_fault_50 gg_readersOf_50 => f_Reader_readBrackets_L50 tt_length tt_ch l1_j48 gg_pieceCount_j48 fu kk50_0 kk50_1 n_50 l2_50 rr_at_50 rr_fault_50 gg_readersOf_50) (l2_50 + 1) yrr_at_33 yrr_fault_34 ygg_readersOf_35)) else (Option.bind (f_Reader_readElement fu (0 : Int32) rr_at_50 rr_fault_50 tt_length tt_ch gg_pieceCount_j48 gg_readersOf_50) fun (yrr_at_29, yrr_fault_30, ygg_readersOf_31) => ((fun l2_50 rr_at_50 rr_fault_50 gg_readersOf_50 => f_Reader_readBrackets_L50 tt_length tt_ch l1_j48 gg_pieceCount_j48 fu kk50_0 kk50_1 n_50 l2_50 rr_at_50 rr_fault_50 gg_readersOf_50) (l2_50 + 1) yrr_at_29 yrr_fault_30 ygg_readersOf_31)))))) else (kk50_0 l2_50 rr_at_50 rr_fault_50 gg_readersOf_50)))
theorem f_Reader_readBrackets_L50_s (tt_length : Int32) (tt_ch : Nat → Int32) (l1_j48 : Int32) (gg_pieceCount_j48 : Int32) (fu : Nat) (kk50_0 : Int32 → Int32 → Int32 → (Nat → Int64) → Option (Int32 × Int32 × Int32 × Int64 × (Nat → Int64) × (Nat → Int64))) (kk50_1 : Int32 → Int32 → Int32 → (Nat → Int64) → Option (Int32 × Int32 × Int32 × Int64 × (Nat → Int64) × (Nat → Int64))) (n_50 : Nat) (l2_50 : Int32) (rr_at_50 : Int32) (rr_fault_50 : Int32) (gg_readersOf_50 : Nat → Int64) : f_Reader_readBrackets_L50 tt_length tt_ch l1_j48 gg_pieceCount_j48 fu kk50_0 kk50_1 (n_50 + 1) l2_50 rr_at_50 rr_fault_50 gg_readersOf_50 = (if (40 : Int32) ≤ l2_50 then (kk50_0 l2_50 rr_at_50 rr_fault_50 gg_readersOf_50) else (if rr_fault_50 = (-1 : Int32) then (if l2_50 ≤ 0 then (if l1_j48 = 0 then (Option.bind (f_Reader_readElement fu (1 : Int32) rr_at_50 rr_fault_50 tt_length tt_ch gg_pieceCount_j48 gg_readersOf_50) fun (yrr_at_21, yrr_fault_22, ygg_readersOf_23) => ((fun l2_50 rr_at_50 rr_fault_50 gg_readersOf_50 => f_Reader_readBrackets_L50 tt_length tt_ch l1_j48 gg_pieceCount_j48 fu kk50_0 kk50_1 n_50 l2_50 rr_at_50 rr_fault_50 gg_readersOf_50) (l2_50 + 1) yrr_at_21 yrr_fault_22 ygg_readersOf_23)) else (Option.bind (f_Reader_readElement fu (0 : Int32) rr_at_50 rr_fault_50 tt_length tt_ch gg_pieceCount_j48 gg_readersOf_50) fun (yrr_at_17, yrr_fault_18, ygg_readersOf_19) => ((fun l2_50 rr_at_50 rr_fault_50 gg_readersOf_50 => f_Reader_readBrackets_L50 tt_length tt_ch l1_j48 gg_pieceCount_j48 fu kk50_0 kk50_1 n_50 l2_50 rr_at_50 rr_fault_50 gg_readersOf_50) (l2_50 + 1) yrr_at_17 yrr_fault_18 ygg_readersOf_19))) else (Option.bind (f_Typed_characterAt rr_at_50 tt_length tt_ch) fun r25 => (if r25 = (93 : Int32) then (kk50_1 l2_50 rr_at_50 rr_fault_50 gg_readersOf_50) else (if l1_j48 = 0 then (Option.bind (f_Reader_readElement fu (1 : Int32) rr_at_50 rr_fault_50 tt_length tt_ch gg_pieceCount_j48 gg_readersOf_50) fun (yrr_at_33, yrr_fault_34, ygg_readersOf_35) => ((fun l2_50 rr_at_50 rr_fault_50 gg_readersOf_50 => f_Reader_readBrackets_L50 tt_length tt_ch l1_j48 gg_pieceCount_j48 fu kk50_0 kk50_1 n_50 l2_50 rr_at_50 rr_fault_50 gg_readersOf_50) (l2_50 + 1) yrr_at_33 yrr_fault_34 ygg_readersOf_35)) else (Option.bind (f_Reader_readElement fu (0 : Int32) rr_at_50 rr_fault_50 tt_length tt_ch gg_pieceCount_j48 gg_readersOf_50) fun (yrr_at_29, yrr_fault_30, ygg_readersOf_31) => ((fun l2_50 rr_at_50 rr_fault_50 gg_readersOf_50 => f_Reader_readBrackets_L50 tt_length tt_ch l1_j48 gg_pieceCount_j48 fu kk50_0 kk50_1 n_50 l2_50 rr_at_50 rr_fault_50 gg_readersOf_50) (l2_50 + 1) yrr_at_29 yrr_fault_30 ygg_readersOf_31)))))) else (kk50_0 l2_50 rr_at_50 rr_fault_50 gg_readersOf_50))) := rfl
def f_Reader_readBrackets_J48 (tt_length : Int32) (tt_ch : Nat → Int32) (fu : Nat) (l1_j48 : Int32) (rr_at_j48 : Int32) (rr_fault_j48 : Int32) (gg_pieceCount_j48 : Int32) (gg_ends_j48 : Int64) (gg_behind_j48 : Nat → Int64) (gg_readersOf_j48 : Nat → Int64) : Option (Int32 × Int32 × Int32 × Int64 × (Nat → Int64) × (Nat → Int64)) := (f_Reader_readBrackets_L50 tt_length tt_ch l1_j48 gg_pieceCount_j48 fu (fun l2_50 rr_at_50 rr_fault_50 gg_readersOf_50 => (f_Reader_readBrackets_J106 tt_length tt_ch fu rr_at_50 rr_fault_50 gg_pieceCount_j48 gg_ends_j48 gg_behind_j48 gg_readersOf_50)) (fun l2_50 rr_at_50 rr_fault_50 gg_readersOf_50 => (f_Reader_readBrackets_J106 tt_length tt_ch fu rr_at_50 rr_fault_50 gg_pieceCount_j48 gg_ends_j48 gg_behind_j48 gg_readersOf_50)) fu (0 : Int32) rr_at_j48 rr_fault_j48 gg_readersOf_j48)
def f_Reader_readBrackets_J34 (tt_length : Int32) (tt_ch : Nat → Int32) (fu : Nat) (s0_j34 : Int32) (rr_at_j34 : Int32) (rr_fault_j34 : Int32) (gg_pieceCount_j34 : Int32) (gg_ends_j34 : Int64) (gg_behind_j34 : Nat → Int64) (gg_readersOf_j34 : Nat → Int64) : Option (Int32 × Int32 × Int32 × Int64 × (Nat → Int64) × (Nat → Int64)) := (if s0_j34 = 0 then (f_Reader_readBrackets_J48 tt_length tt_ch fu s0_j34 rr_at_j34 rr_fault_j34 gg_pieceCount_j34 gg_ends_j34 gg_behind_j34 gg_readersOf_j34) else (Option.bind (f_Reader_setReadsAll fu gg_pieceCount_j34 gg_readersOf_j34) fun ygg_readersOf_38 => (Option.bind (f_Reader_pass (1 : Int32) rr_at_j34 rr_fault_j34) fun (yrr_at_40, yrr_fault_41) => (f_Reader_readBrackets_J48 tt_length tt_ch fu s0_j34 yrr_at_40 yrr_fault_41 gg_pieceCount_j34 gg_ends_j34 gg_behind_j34 ygg_readersOf_38))))
def f_Reader_readBrackets (fu : Nat) (rr_at : Int32) (rr_fault : Int32) (tt_length : Int32) (tt_ch : Nat → Int32) (gg_pieceCount : Int32) (gg_ends : Int64) (gg_behind : Nat → Int64) (gg_readersOf : Nat → Int64) : Option (Int32 × Int32 × Int32 × Int64 × (Nat → Int64) × (Nat → Int64)) := (Option.bind (f_Reader_pass (1 : Int32) rr_at rr_fault) fun (yrr_at_43, yrr_fault_44) => (Option.bind (f_Glob_addPiece fu (0 : Int32) gg_pieceCount gg_ends gg_behind) fun (ygg_pieceCount_46, ygg_ends_47, ygg_behind_48) => (Option.bind (f_Typed_characterAt yrr_at_43 tt_length tt_ch) fun r50 => (if r50 = (94 : Int32) then (f_Reader_readBrackets_J34 tt_length tt_ch fu (1 : Int32) yrr_at_43 yrr_fault_44 ygg_pieceCount_46 ygg_ends_47 ygg_behind_48 gg_readersOf) else (f_Reader_readBrackets_J34 tt_length tt_ch fu (0 : Int32) yrr_at_43 yrr_fault_44 ygg_pieceCount_46 ygg_ends_47 ygg_behind_48 gg_readersOf)))))
set_option maxRecDepth 100000 in
set_option maxHeartbeats 4000000 in
theorem c_Reader_readBrackets {l : Launch} {D : va_G} {cI cJ cC cZ cR : ClassId} (fu : Nat) (a_r a_t a_g a_tc a_gb a_gr a_ge a_go a_gc : Nat)   (rr_at : Int32) (rr_fault : Int32) (tt_length : Int32) (tt_ch : Nat → Int32) (gg_pieceCount : Int32) (gg_depth : Int32) (gg_ends : Int64) (gg_behind : Nat → Int64) (gg_readersOf : Nat → Int64)  (o_rr_at : Int32) (o_rr_fault : Int32) (o_gg_pieceCount : Int32) (o_gg_ends : Int64) (o_gg_behind : Nat → Int64) (o_gg_readersOf : Nat → Int64) (h : f_Reader_readBrackets fu rr_at rr_fault tt_length tt_ch gg_pieceCount gg_ends gg_behind gg_readersOf = some (o_rr_at, o_rr_fault, o_gg_pieceCount, o_gg_ends, o_gg_behind, o_gg_readersOf)) : GM l D (tysL cI cJ cC cZ cR) y_Reader_readBrackets b_Reader_readBrackets 3 none { frames := 3, cells := 0, slots := 0, locals := 72 } [.ref a_r] (w_Reader_readBrackets (cI := cI) (cJ := cJ) (cC := cC) (cZ := cZ) (cR := cR) a_r a_t a_g a_tc a_gb a_gr a_ge a_go a_gc rr_at rr_fault tt_length tt_ch gg_pieceCount gg_depth gg_ends gg_behind gg_readersOf) (fun (o : Option Value) (w : va_W) => o = none ∧ w = w_Reader_readBrackets (cI := cI) (cJ := cJ) (cC := cC) (cZ := cZ) (cR := cR) a_r a_t a_g a_tc a_gb a_gr a_ge a_go a_gc o_rr_at o_rr_fault tt_length tt_ch o_gg_pieceCount gg_depth o_gg_ends o_gg_behind o_gg_readersOf) := by
  refine GM.of (by decide) (Nat.le_of_ble_eq_true rfl) (lv := [(0, .ref a_r)]) rfl ?_
  intro X hX C
  subst hX
  have J106 : ∀ (l2_j106 : Int32) (l1_j106 : Int32) (rr_at_j106 : Int32) (rr_fault_j106 : Int32) (gg_pieceCount_j106 : Int32) (gg_ends_j106 : Int64) (gg_behind_j106 : Nat → Int64) (gg_readersOf_j106 : Nat → Int64), f_Reader_readBrackets_J106 tt_length tt_ch fu rr_at_j106 rr_fault_j106 gg_pieceCount_j106 gg_ends_j106 gg_behind_j106 gg_readersOf_j106 = some (o_rr_at, o_rr_fault, o_gg_pieceCount, o_gg_ends, o_gg_behind, o_gg_readersOf) → Wk X { frames := 3, cells := 0, slots := 0, locals := 72 } 3 D (va_A (w_Reader_readBrackets (cI := cI) (cJ := cJ) (cC := cC) (cZ := cZ) (cR := cR) a_r a_t a_g a_tc a_gb a_gr a_ge a_go a_gc rr_at rr_fault tt_length tt_ch gg_pieceCount gg_depth gg_ends gg_behind gg_readersOf) (xs X).heap.size) 0 0 (GE X D (w_Reader_readBrackets (cI := cI) (cJ := cJ) (cC := cC) (cZ := cZ) (cR := cR) a_r a_t a_g a_tc a_gb a_gr a_ge a_go a_gc rr_at rr_fault tt_length tt_ch gg_pieceCount gg_depth gg_ends gg_behind gg_readersOf) (fun (o : Option Value) (w : va_W) => o = none ∧ w = w_Reader_readBrackets (cI := cI) (cJ := cJ) (cC := cC) (cZ := cZ) (cR := cR) a_r a_t a_g a_tc a_gb a_gr a_ge a_go a_gc o_rr_at o_rr_fault tt_length tt_ch o_gg_pieceCount gg_depth o_gg_ends o_gg_behind o_gg_readersOf) 0 0) (w_Reader_readBrackets (cI := cI) (cJ := cJ) (cC := cC) (cZ := cZ) (cR := cR) a_r a_t a_g a_tc a_gb a_gr a_ge a_go a_gc rr_at_j106 rr_fault_j106 tt_length tt_ch gg_pieceCount_j106 gg_depth gg_ends_j106 gg_behind_j106 gg_readersOf_j106) [(2, .int l2_j106), (1, .int l1_j106), (0, .ref a_r)] [] 106 := by
    intro l2_j106 l1_j106 rr_at_j106 rr_fault_j106 gg_pieceCount_j106 gg_ends_j106 gg_behind_j106 gg_readersOf_j106 h
    refine k_aload_n C d_Reader_readBrackets_106 rfl 2 rfl rfl ?_
    refine k_getf C d_Reader_readBrackets_107 hin_Reader rfl 3 (by decide) mw81 0 rfl rfl rfl ?_
    refine k_iconst C d_Reader_readBrackets_110 (v := (-1 : Int32)) (by decide) rfl ?_
    refine k_icmp_ne (tgt := 148) C d_Reader_readBrackets_111 (by decide) rfl (fun c1 => ?_) (fun c1 => ?_)
    · replace h := gi_f h c1
      exact k_vret C d_Reader_readBrackets_148 (tr1 h (fun t => (fun (o : Option Value) (w : va_W) => o = none ∧ w = w_Reader_readBrackets (cI := cI) (cJ := cJ) (cC := cC) (cZ := cZ) (cR := cR) a_r a_t a_g a_tc a_gb a_gr a_ge a_go a_gc (t.1) (t.2.1) tt_length tt_ch (t.2.2.1) gg_depth (t.2.2.2.1) (t.2.2.2.2.1) (t.2.2.2.2.2)) none (w_Reader_readBrackets (cI := cI) (cJ := cJ) (cC := cC) (cZ := cZ) (cR := cR) a_r a_t a_g a_tc a_gb a_gr a_ge a_go a_gc rr_at_j106 rr_fault_j106 tt_length tt_ch gg_pieceCount_j106 gg_depth gg_ends_j106 gg_behind_j106 gg_readersOf_j106)) ⟨rfl, rfl⟩)
    · replace h := gi_t h c1
      refine k_aload_n C d_Reader_readBrackets_114 rfl 2 rfl rfl ?_
      refine k_bipush C d_Reader_readBrackets_115 (v := (47 : Int32)) (by decide) rfl ?_
      refine k_bipush C d_Reader_readBrackets_117 (v := (47 : Int32)) (by decide) rfl ?_
      refine k_iconst C d_Reader_readBrackets_119 (v := (0 : Int32)) (by decide) rfl ?_
      obtain ⟨ygg_readersOf_2, hc3, h⟩ := bd h
      refine k_callVd (As := [.int (47 : Int32), .int (47 : Int32), .int (0 : Int32)]) (st := []) (st' := []) (wn := w_Reader_readBrackets (cI := cI) (cJ := cJ) (cC := cC) (cZ := cZ) (cR := cR) a_r a_t a_g a_tc a_gb a_gr a_ge a_go a_gc rr_at_j106 rr_fault_j106 tt_length tt_ch gg_pieceCount_j106 gg_depth gg_ends_j106 gg_behind_j106 ygg_readersOf_2) C d_Reader_readBrackets_120 (c_Reader_setReads fu a_r a_t a_g a_gb a_gr a_ge a_go a_gc rr_at_j106 rr_fault_j106 gg_pieceCount_j106 gg_depth gg_ends_j106 gg_readersOf_j106 (47 : Int32) (47 : Int32) (0 : Int32) ygg_readersOf_2 hc3) co_Reader_setReads cov_Reader_setReads mw87 0 rfl rfl (by decide) (by decide) (Nat.le_of_ble_eq_true rfl) rfl [0, 3, 5] [1, 2, 4] [3, 0, 1, 4, 2, 5] rfl (by decide +kernel) rfl (by decide +kernel) (by decide +kernel) rfl (by decide +kernel) rfl rfl ?_
      refine k_aload_n C d_Reader_readBrackets_123 rfl 2 rfl rfl ?_
      refine k_aload_n C d_Reader_readBrackets_124 rfl 2 rfl rfl ?_
      refine k_getf C d_Reader_readBrackets_125 hin_Reader rfl 0 (by decide) mw88 0 rfl rfl rfl ?_
      refine k_aload_n C d_Reader_readBrackets_128 rfl 2 rfl rfl ?_
      refine k_getf C d_Reader_readBrackets_129 hin_Reader rfl 2 (by decide) mw80 0 rfl rfl rfl ?_
      obtain ⟨r4, hc5, h⟩ := bd h
      refine k_callVd (As := [.int rr_at_j106]) (st := [.ref a_r]) (st' := [.int r4, .ref a_r]) (wn := w_Reader_readBrackets (cI := cI) (cJ := cJ) (cC := cC) (cZ := cZ) (cR := cR) a_r a_t a_g a_tc a_gb a_gr a_ge a_go a_gc rr_at_j106 rr_fault_j106 tt_length tt_ch gg_pieceCount_j106 gg_depth gg_ends_j106 gg_behind_j106 ygg_readersOf_2) C d_Reader_readBrackets_132 (c_Typed_characterAt fu a_t a_tc tt_length tt_ch rr_at_j106 r4 hc5) co_Typed_characterAt cov_Typed_characterAt mw89 1 rfl rfl (by decide) (by decide) (Nat.le_of_ble_eq_true rfl) rfl [1, 2] [0, 3, 4, 5] [0, 4, 5, 1, 2, 3] rfl (by decide +kernel) rfl (by decide +kernel) (by decide +kernel) rfl (by decide +kernel) rfl rfl ?_
      refine k_bipush C d_Reader_readBrackets_135 (v := (93 : Int32)) (by decide) rfl ?_
      refine k_icmp_ne (tgt := 144) C d_Reader_readBrackets_137 (by decide) rfl (fun c6 => ?_) (fun c6 => ?_)
      · replace h := gi_f h c6
        refine k_iconst C d_Reader_readBrackets_144 (v := (0 : Int32)) (by decide) rfl ?_
        obtain ⟨⟨yrr_at_7, yrr_fault_8⟩, hc9, h⟩ := bd h
        refine k_callVd (As := [.int (0 : Int32)]) (st := []) (st' := []) (wn := w_Reader_readBrackets (cI := cI) (cJ := cJ) (cC := cC) (cZ := cZ) (cR := cR) a_r a_t a_g a_tc a_gb a_gr a_ge a_go a_gc yrr_at_7 yrr_fault_8 tt_length tt_ch gg_pieceCount_j106 gg_depth gg_ends_j106 gg_behind_j106 ygg_readersOf_2) C d_Reader_readBrackets_145 (c_Reader_pass fu a_r a_t a_g rr_at_j106 rr_fault_j106 (0 : Int32) yrr_at_7 yrr_fault_8 hc9) co_Reader_pass cov_Reader_pass mw90 0 rfl rfl (by decide) (by decide) (Nat.le_of_ble_eq_true rfl) rfl [0] [1, 2, 3, 4, 5] [5, 0, 1, 2, 3, 4] rfl (by decide +kernel) rfl (by decide +kernel) (by decide +kernel) rfl (by decide +kernel) rfl rfl ?_
        exact k_vret C d_Reader_readBrackets_148 (tr1 h (fun t => (fun (o : Option Value) (w : va_W) => o = none ∧ w = w_Reader_readBrackets (cI := cI) (cJ := cJ) (cC := cC) (cZ := cZ) (cR := cR) a_r a_t a_g a_tc a_gb a_gr a_ge a_go a_gc (t.1) (t.2.1) tt_length tt_ch (t.2.2.1) gg_depth (t.2.2.2.1) (t.2.2.2.2.1) (t.2.2.2.2.2)) none (w_Reader_readBrackets (cI := cI) (cJ := cJ) (cC := cC) (cZ := cZ) (cR := cR) a_r a_t a_g a_tc a_gb a_gr a_ge a_go a_gc yrr_at_7 yrr_fault_8 tt_length tt_ch gg_pieceCount_j106 gg_depth gg_ends_j106 gg_behind_j106 ygg_readersOf_2)) ⟨rfl, rfl⟩)
      · replace h := gi_t h c6
        refine k_iconst C d_Reader_readBrackets_140 (v := (1 : Int32)) (by decide) rfl ?_
        refine k_goto (tgt := 145) C d_Reader_readBrackets_141 (by decide) ?_
        obtain ⟨⟨yrr_at_10, yrr_fault_11⟩, hc12, h⟩ := bd h
        refine k_callVd (As := [.int (1 : Int32)]) (st := []) (st' := []) (wn := w_Reader_readBrackets (cI := cI) (cJ := cJ) (cC := cC) (cZ := cZ) (cR := cR) a_r a_t a_g a_tc a_gb a_gr a_ge a_go a_gc yrr_at_10 yrr_fault_11 tt_length tt_ch gg_pieceCount_j106 gg_depth gg_ends_j106 gg_behind_j106 ygg_readersOf_2) C d_Reader_readBrackets_145 (c_Reader_pass fu a_r a_t a_g rr_at_j106 rr_fault_j106 (1 : Int32) yrr_at_10 yrr_fault_11 hc12) co_Reader_pass cov_Reader_pass mw90 0 rfl rfl (by decide) (by decide) (Nat.le_of_ble_eq_true rfl) rfl [0] [1, 2, 3, 4, 5] [5, 0, 1, 2, 3, 4] rfl (by decide +kernel) rfl (by decide +kernel) (by decide +kernel) rfl (by decide +kernel) rfl rfl ?_
        exact k_vret C d_Reader_readBrackets_148 (tr1 h (fun t => (fun (o : Option Value) (w : va_W) => o = none ∧ w = w_Reader_readBrackets (cI := cI) (cJ := cJ) (cC := cC) (cZ := cZ) (cR := cR) a_r a_t a_g a_tc a_gb a_gr a_ge a_go a_gc (t.1) (t.2.1) tt_length tt_ch (t.2.2.1) gg_depth (t.2.2.2.1) (t.2.2.2.2.1) (t.2.2.2.2.2)) none (w_Reader_readBrackets (cI := cI) (cJ := cJ) (cC := cC) (cZ := cZ) (cR := cR) a_r a_t a_g a_tc a_gb a_gr a_ge a_go a_gc yrr_at_10 yrr_fault_11 tt_length tt_ch gg_pieceCount_j106 gg_depth gg_ends_j106 gg_behind_j106 ygg_readersOf_2)) ⟨rfl, rfl⟩)
  have J48 : ∀ (l1_j48 : Int32) (rr_at_j48 : Int32) (rr_fault_j48 : Int32) (gg_pieceCount_j48 : Int32) (gg_ends_j48 : Int64) (gg_behind_j48 : Nat → Int64) (gg_readersOf_j48 : Nat → Int64), f_Reader_readBrackets_J48 tt_length tt_ch fu l1_j48 rr_at_j48 rr_fault_j48 gg_pieceCount_j48 gg_ends_j48 gg_behind_j48 gg_readersOf_j48 = some (o_rr_at, o_rr_fault, o_gg_pieceCount, o_gg_ends, o_gg_behind, o_gg_readersOf) → Wk X { frames := 3, cells := 0, slots := 0, locals := 72 } 3 D (va_A (w_Reader_readBrackets (cI := cI) (cJ := cJ) (cC := cC) (cZ := cZ) (cR := cR) a_r a_t a_g a_tc a_gb a_gr a_ge a_go a_gc rr_at rr_fault tt_length tt_ch gg_pieceCount gg_depth gg_ends gg_behind gg_readersOf) (xs X).heap.size) 0 0 (GE X D (w_Reader_readBrackets (cI := cI) (cJ := cJ) (cC := cC) (cZ := cZ) (cR := cR) a_r a_t a_g a_tc a_gb a_gr a_ge a_go a_gc rr_at rr_fault tt_length tt_ch gg_pieceCount gg_depth gg_ends gg_behind gg_readersOf) (fun (o : Option Value) (w : va_W) => o = none ∧ w = w_Reader_readBrackets (cI := cI) (cJ := cJ) (cC := cC) (cZ := cZ) (cR := cR) a_r a_t a_g a_tc a_gb a_gr a_ge a_go a_gc o_rr_at o_rr_fault tt_length tt_ch o_gg_pieceCount gg_depth o_gg_ends o_gg_behind o_gg_readersOf) 0 0) (w_Reader_readBrackets (cI := cI) (cJ := cJ) (cC := cC) (cZ := cZ) (cR := cR) a_r a_t a_g a_tc a_gb a_gr a_ge a_go a_gc rr_at_j48 rr_fault_j48 tt_length tt_ch gg_pieceCount_j48 gg_depth gg_ends_j48 gg_behind_j48 gg_readersOf_j48) [(1, .int l1_j48), (0, .ref a_r)] [] 48 := by
    intro l1_j48 rr_at_j48 rr_fault_j48 gg_pieceCount_j48 gg_ends_j48 gg_behind_j48 gg_readersOf_j48 h
    refine k_iconst C d_Reader_readBrackets_48 (v := (0 : Int32)) (by decide) rfl ?_
    refine k_istore_n (lv' := [(2, .int (0 : Int32)), (1, .int l1_j48), (0, .ref a_r)]) C d_Reader_readBrackets_49 rfl (by decide) rfl rfl ?_
    have X50_0 : ∀ (l2_50 : Int32) (rr_at_50 : Int32) (rr_fault_50 : Int32) (gg_readersOf_50 : Nat → Int64), (f_Reader_readBrackets_J106 tt_length tt_ch fu rr_at_50 rr_fault_50 gg_pieceCount_j48 gg_ends_j48 gg_behind_j48 gg_readersOf_50) = some (o_rr_at, o_rr_fault, o_gg_pieceCount, o_gg_ends, o_gg_behind, o_gg_readersOf) → Wk X { frames := 3, cells := 0, slots := 0, locals := 72 } 3 D (va_A (w_Reader_readBrackets (cI := cI) (cJ := cJ) (cC := cC) (cZ := cZ) (cR := cR) a_r a_t a_g a_tc a_gb a_gr a_ge a_go a_gc rr_at rr_fault tt_length tt_ch gg_pieceCount gg_depth gg_ends gg_behind gg_readersOf) (xs X).heap.size) 0 0 (GE X D (w_Reader_readBrackets (cI := cI) (cJ := cJ) (cC := cC) (cZ := cZ) (cR := cR) a_r a_t a_g a_tc a_gb a_gr a_ge a_go a_gc rr_at rr_fault tt_length tt_ch gg_pieceCount gg_depth gg_ends gg_behind gg_readersOf) (fun (o : Option Value) (w : va_W) => o = none ∧ w = w_Reader_readBrackets (cI := cI) (cJ := cJ) (cC := cC) (cZ := cZ) (cR := cR) a_r a_t a_g a_tc a_gb a_gr a_ge a_go a_gc o_rr_at o_rr_fault tt_length tt_ch o_gg_pieceCount gg_depth o_gg_ends o_gg_behind o_gg_readersOf) 0 0) (w_Reader_readBrackets (cI := cI) (cJ := cJ) (cC := cC) (cZ := cZ) (cR := cR) a_r a_t a_g a_tc a_gb a_gr a_ge a_go a_gc rr_at_50 rr_fault_50 tt_length tt_ch gg_pieceCount_j48 gg_depth gg_ends_j48 gg_behind_j48 gg_readersOf_50) [(2, .int l2_50), (1, .int l1_j48), (0, .ref a_r)] [] 106 := by
      intro l2_50 rr_at_50 rr_fault_50 gg_readersOf_50 h
      exact J106 l2_50 l1_j48 rr_at_50 rr_fault_50 gg_pieceCount_j48 gg_ends_j48 gg_behind_j48 gg_readersOf_50 h
    have X50_1 : ∀ (l2_50 : Int32) (rr_at_50 : Int32) (rr_fault_50 : Int32) (gg_readersOf_50 : Nat → Int64), (f_Reader_readBrackets_J106 tt_length tt_ch fu rr_at_50 rr_fault_50 gg_pieceCount_j48 gg_ends_j48 gg_behind_j48 gg_readersOf_50) = some (o_rr_at, o_rr_fault, o_gg_pieceCount, o_gg_ends, o_gg_behind, o_gg_readersOf) → Wk X { frames := 3, cells := 0, slots := 0, locals := 72 } 3 D (va_A (w_Reader_readBrackets (cI := cI) (cJ := cJ) (cC := cC) (cZ := cZ) (cR := cR) a_r a_t a_g a_tc a_gb a_gr a_ge a_go a_gc rr_at rr_fault tt_length tt_ch gg_pieceCount gg_depth gg_ends gg_behind gg_readersOf) (xs X).heap.size) 0 0 (GE X D (w_Reader_readBrackets (cI := cI) (cJ := cJ) (cC := cC) (cZ := cZ) (cR := cR) a_r a_t a_g a_tc a_gb a_gr a_ge a_go a_gc rr_at rr_fault tt_length tt_ch gg_pieceCount gg_depth gg_ends gg_behind gg_readersOf) (fun (o : Option Value) (w : va_W) => o = none ∧ w = w_Reader_readBrackets (cI := cI) (cJ := cJ) (cC := cC) (cZ := cZ) (cR := cR) a_r a_t a_g a_tc a_gb a_gr a_ge a_go a_gc o_rr_at o_rr_fault tt_length tt_ch o_gg_pieceCount gg_depth o_gg_ends o_gg_behind o_gg_readersOf) 0 0) (w_Reader_readBrackets (cI := cI) (cJ := cJ) (cC := cC) (cZ := cZ) (cR := cR) a_r a_t a_g a_tc a_gb a_gr a_ge a_go a_gc rr_at_50 rr_fault_50 tt_length tt_ch gg_pieceCount_j48 gg_depth gg_ends_j48 gg_behind_j48 gg_readersOf_50) [(2, .int l2_50), (1, .int l1_j48), (0, .ref a_r)] [] 84 := by
      intro l2_50 rr_at_50 rr_fault_50 gg_readersOf_50 h
      refine k_goto (tgt := 106) C d_Reader_readBrackets_84 (by decide) ?_
      exact J106 l2_50 l1_j48 rr_at_50 rr_fault_50 gg_pieceCount_j48 gg_ends_j48 gg_behind_j48 gg_readersOf_50 h
    have L50 : ∀ (kk50_0 : Int32 → Int32 → Int32 → (Nat → Int64) → Option (Int32 × Int32 × Int32 × Int64 × (Nat → Int64) × (Nat → Int64))) (kk50_1 : Int32 → Int32 → Int32 → (Nat → Int64) → Option (Int32 × Int32 × Int32 × Int64 × (Nat → Int64) × (Nat → Int64))) (hX50_0 : ∀ (l2_50 : Int32) (rr_at_50 : Int32) (rr_fault_50 : Int32) (gg_readersOf_50 : Nat → Int64), kk50_0 l2_50 rr_at_50 rr_fault_50 gg_readersOf_50 = some (o_rr_at, o_rr_fault, o_gg_pieceCount, o_gg_ends, o_gg_behind, o_gg_readersOf) → Wk X { frames := 3, cells := 0, slots := 0, locals := 72 } 3 D (va_A (w_Reader_readBrackets (cI := cI) (cJ := cJ) (cC := cC) (cZ := cZ) (cR := cR) a_r a_t a_g a_tc a_gb a_gr a_ge a_go a_gc rr_at rr_fault tt_length tt_ch gg_pieceCount gg_depth gg_ends gg_behind gg_readersOf) (xs X).heap.size) 0 0 (GE X D (w_Reader_readBrackets (cI := cI) (cJ := cJ) (cC := cC) (cZ := cZ) (cR := cR) a_r a_t a_g a_tc a_gb a_gr a_ge a_go a_gc rr_at rr_fault tt_length tt_ch gg_pieceCount gg_depth gg_ends gg_behind gg_readersOf) (fun (o : Option Value) (w : va_W) => o = none ∧ w = w_Reader_readBrackets (cI := cI) (cJ := cJ) (cC := cC) (cZ := cZ) (cR := cR) a_r a_t a_g a_tc a_gb a_gr a_ge a_go a_gc o_rr_at o_rr_fault tt_length tt_ch o_gg_pieceCount gg_depth o_gg_ends o_gg_behind o_gg_readersOf) 0 0) (w_Reader_readBrackets (cI := cI) (cJ := cJ) (cC := cC) (cZ := cZ) (cR := cR) a_r a_t a_g a_tc a_gb a_gr a_ge a_go a_gc rr_at_50 rr_fault_50 tt_length tt_ch gg_pieceCount_j48 gg_depth gg_ends_j48 gg_behind_j48 gg_readersOf_50) [(2, .int l2_50), (1, .int l1_j48), (0, .ref a_r)] [] 106) (hX50_1 : ∀ (l2_50 : Int32) (rr_at_50 : Int32) (rr_fault_50 : Int32) (gg_readersOf_50 : Nat → Int64), kk50_1 l2_50 rr_at_50 rr_fault_50 gg_readersOf_50 = some (o_rr_at, o_rr_fault, o_gg_pieceCount, o_gg_ends, o_gg_behind, o_gg_readersOf) → Wk X { frames := 3, cells := 0, slots := 0, locals := 72 } 3 D (va_A (w_Reader_readBrackets (cI := cI) (cJ := cJ) (cC := cC) (cZ := cZ) (cR := cR) a_r a_t a_g a_tc a_gb a_gr a_ge a_go a_gc rr_at rr_fault tt_length tt_ch gg_pieceCount gg_depth gg_ends gg_behind gg_readersOf) (xs X).heap.size) 0 0 (GE X D (w_Reader_readBrackets (cI := cI) (cJ := cJ) (cC := cC) (cZ := cZ) (cR := cR) a_r a_t a_g a_tc a_gb a_gr a_ge a_go a_gc rr_at rr_fault tt_length tt_ch gg_pieceCount gg_depth gg_ends gg_behind gg_readersOf) (fun (o : Option Value) (w : va_W) => o = none ∧ w = w_Reader_readBrackets (cI := cI) (cJ := cJ) (cC := cC) (cZ := cZ) (cR := cR) a_r a_t a_g a_tc a_gb a_gr a_ge a_go a_gc o_rr_at o_rr_fault tt_length tt_ch o_gg_pieceCount gg_depth o_gg_ends o_gg_behind o_gg_readersOf) 0 0) (w_Reader_readBrackets (cI := cI) (cJ := cJ) (cC := cC) (cZ := cZ) (cR := cR) a_r a_t a_g a_tc a_gb a_gr a_ge a_go a_gc rr_at_50 rr_fault_50 tt_length tt_ch gg_pieceCount_j48 gg_depth gg_ends_j48 gg_behind_j48 gg_readersOf_50) [(2, .int l2_50), (1, .int l1_j48), (0, .ref a_r)] [] 84) (n_50 : Nat) (l2_50 : Int32) (rr_at_50 : Int32) (rr_fault_50 : Int32) (gg_readersOf_50 : Nat → Int64), f_Reader_readBrackets_L50 tt_length tt_ch l1_j48 gg_pieceCount_j48 fu kk50_0 kk50_1 n_50 l2_50 rr_at_50 rr_fault_50 gg_readersOf_50 = some (o_rr_at, o_rr_fault, o_gg_pieceCount, o_gg_ends, o_gg_behind, o_gg_readersOf) → Wk X { frames := 3, cells := 0, slots := 0, locals := 72 } 3 D (va_A (w_Reader_readBrackets (cI := cI) (cJ := cJ) (cC := cC) (cZ := cZ) (cR := cR) a_r a_t a_g a_tc a_gb a_gr a_ge a_go a_gc rr_at rr_fault tt_length tt_ch gg_pieceCount gg_depth gg_ends gg_behind gg_readersOf) (xs X).heap.size) 0 0 (GE X D (w_Reader_readBrackets (cI := cI) (cJ := cJ) (cC := cC) (cZ := cZ) (cR := cR) a_r a_t a_g a_tc a_gb a_gr a_ge a_go a_gc rr_at rr_fault tt_length tt_ch gg_pieceCount gg_depth gg_ends gg_behind gg_readersOf) (fun (o : Option Value) (w : va_W) => o = none ∧ w = w_Reader_readBrackets (cI := cI) (cJ := cJ) (cC := cC) (cZ := cZ) (cR := cR) a_r a_t a_g a_tc a_gb a_gr a_ge a_go a_gc o_rr_at o_rr_fault tt_length tt_ch o_gg_pieceCount gg_depth o_gg_ends o_gg_behind o_gg_readersOf) 0 0) (w_Reader_readBrackets (cI := cI) (cJ := cJ) (cC := cC) (cZ := cZ) (cR := cR) a_r a_t a_g a_tc a_gb a_gr a_ge a_go a_gc rr_at_50 rr_fault_50 tt_length tt_ch gg_pieceCount_j48 gg_depth gg_ends_j48 gg_behind_j48 gg_readersOf_50) [(2, .int l2_50), (1, .int l1_j48), (0, .ref a_r)] [] 50 := by
      intro kk50_0 kk50_1 hX50_0 hX50_1 n_50
      induction n_50 with
      | zero =>
        intro l2_50 rr_at_50 rr_fault_50 gg_readersOf_50 h
        exact nS h
      | succ n_50 ih50 =>
        intro l2_50 rr_at_50 rr_fault_50 gg_readersOf_50 h
        replace h := (f_Reader_readBrackets_L50_s _ _ _ _ _ _ _ _ _ _ _ _).symm.trans h
        refine k_iload_n C d_Reader_readBrackets_50 rfl 0 rfl rfl ?_
        refine k_bipush C d_Reader_readBrackets_51 (v := (40 : Int32)) (by decide) rfl ?_
        refine k_icmp_ge (tgt := 106) C d_Reader_readBrackets_53 (by decide) rfl (fun c13 => ?_) (fun c13 => ?_)
        · replace h := gi_t h c13
          exact hX50_0 l2_50 rr_at_50 rr_fault_50 gg_readersOf_50 h
        · replace h := gi_f h c13
          refine k_aload_n C d_Reader_readBrackets_56 rfl 2 rfl rfl ?_
          refine k_getf C d_Reader_readBrackets_57 hin_Reader rfl 3 (by decide) mw81 0 rfl rfl rfl ?_
          refine k_iconst C d_Reader_readBrackets_60 (v := (-1 : Int32)) (by decide) rfl ?_
          refine k_icmp_ne (tgt := 106) C d_Reader_readBrackets_61 (by decide) rfl (fun c14 => ?_) (fun c14 => ?_)
          · replace h := gi_f h c14
            exact hX50_0 l2_50 rr_at_50 rr_fault_50 gg_readersOf_50 h
          · replace h := gi_t h c14
            refine k_iload_n C d_Reader_readBrackets_64 rfl 0 rfl rfl ?_
            refine k_if_le (tgt := 87) C d_Reader_readBrackets_65 (by decide) rfl (fun c15 => ?_) (fun c15 => ?_)
            · replace h := gi_t h c15
              refine k_aload_n C d_Reader_readBrackets_87 rfl 2 rfl rfl ?_
              refine k_iload_n C d_Reader_readBrackets_88 rfl 1 rfl rfl ?_
              refine k_if_ne (tgt := 96) C d_Reader_readBrackets_89 (by decide) rfl (fun c16 => ?_) (fun c16 => ?_)
              · replace h := gi_f h c16
                refine k_iconst C d_Reader_readBrackets_96 (v := (0 : Int32)) (by decide) rfl ?_
                obtain ⟨⟨yrr_at_17, yrr_fault_18, ygg_readersOf_19⟩, hc20, h⟩ := bd h
                refine k_callVd (As := [.int (0 : Int32)]) (st := []) (st' := []) (wn := w_Reader_readBrackets (cI := cI) (cJ := cJ) (cC := cC) (cZ := cZ) (cR := cR) a_r a_t a_g a_tc a_gb a_gr a_ge a_go a_gc yrr_at_17 yrr_fault_18 tt_length tt_ch gg_pieceCount_j48 gg_depth gg_ends_j48 gg_behind_j48 ygg_readersOf_19) C d_Reader_readBrackets_97 (c_Reader_readElement fu a_r a_t a_g a_tc a_gb a_gr a_ge a_go a_gc rr_at_50 rr_fault_50 tt_length tt_ch gg_pieceCount_j48 gg_depth gg_ends_j48 gg_readersOf_50 (0 : Int32) yrr_at_17 yrr_fault_18 ygg_readersOf_19 hc20) co_Reader_readElement cov_Reader_readElement mw93 0 rfl rfl (by decide) (by decide) (Nat.le_of_ble_eq_true rfl) rfl [0, 1, 2, 3, 5] [4] [1, 2, 3, 4, 0, 5] rfl (by decide +kernel) rfl (by decide +kernel) (by decide +kernel) rfl (by decide +kernel) rfl rfl ?_
                refine k_iinc (lv' := [(2, .int (l2_50 + 1)), (1, .int l1_j48), (0, .ref a_r)]) C d_Reader_readBrackets_100 0 rfl rfl (by decide) rfl rfl ?_
                refine k_goto (tgt := 50) C d_Reader_readBrackets_103 (by decide) ?_
                exact ih50 (l2_50 + 1) yrr_at_17 yrr_fault_18 ygg_readersOf_19 h
              · replace h := gi_t h c16
                refine k_iconst C d_Reader_readBrackets_92 (v := (1 : Int32)) (by decide) rfl ?_
                refine k_goto (tgt := 97) C d_Reader_readBrackets_93 (by decide) ?_
                obtain ⟨⟨yrr_at_21, yrr_fault_22, ygg_readersOf_23⟩, hc24, h⟩ := bd h
                refine k_callVd (As := [.int (1 : Int32)]) (st := []) (st' := []) (wn := w_Reader_readBrackets (cI := cI) (cJ := cJ) (cC := cC) (cZ := cZ) (cR := cR) a_r a_t a_g a_tc a_gb a_gr a_ge a_go a_gc yrr_at_21 yrr_fault_22 tt_length tt_ch gg_pieceCount_j48 gg_depth gg_ends_j48 gg_behind_j48 ygg_readersOf_23) C d_Reader_readBrackets_97 (c_Reader_readElement fu a_r a_t a_g a_tc a_gb a_gr a_ge a_go a_gc rr_at_50 rr_fault_50 tt_length tt_ch gg_pieceCount_j48 gg_depth gg_ends_j48 gg_readersOf_50 (1 : Int32) yrr_at_21 yrr_fault_22 ygg_readersOf_23 hc24) co_Reader_readElement cov_Reader_readElement mw93 0 rfl rfl (by decide) (by decide) (Nat.le_of_ble_eq_true rfl) rfl [0, 1, 2, 3, 5] [4] [1, 2, 3, 4, 0, 5] rfl (by decide +kernel) rfl (by decide +kernel) (by decide +kernel) rfl (by decide +kernel) rfl rfl ?_
                refine k_iinc (lv' := [(2, .int (l2_50 + 1)), (1, .int l1_j48), (0, .ref a_r)]) C d_Reader_readBrackets_100 0 rfl rfl (by decide) rfl rfl ?_
                refine k_goto (tgt := 50) C d_Reader_readBrackets_103 (by decide) ?_
                exact ih50 (l2_50 + 1) yrr_at_21 yrr_fault_22 ygg_readersOf_23 h
            · replace h := gi_f h c15
              refine k_aload_n C d_Reader_readBrackets_68 rfl 2 rfl rfl ?_
              refine k_getf C d_Reader_readBrackets_69 hin_Reader rfl 0 (by decide) mw88 0 rfl rfl rfl ?_
              refine k_aload_n C d_Reader_readBrackets_72 rfl 2 rfl rfl ?_
              refine k_getf C d_Reader_readBrackets_73 hin_Reader rfl 2 (by decide) mw80 0 rfl rfl rfl ?_
              obtain ⟨r25, hc26, h⟩ := bd h
              refine k_callVd (As := [.int rr_at_50]) (st := []) (st' := [.int r25]) (wn := w_Reader_readBrackets (cI := cI) (cJ := cJ) (cC := cC) (cZ := cZ) (cR := cR) a_r a_t a_g a_tc a_gb a_gr a_ge a_go a_gc rr_at_50 rr_fault_50 tt_length tt_ch gg_pieceCount_j48 gg_depth gg_ends_j48 gg_behind_j48 gg_readersOf_50) C d_Reader_readBrackets_76 (c_Typed_characterAt fu a_t a_tc tt_length tt_ch rr_at_50 r25 hc26) co_Typed_characterAt cov_Typed_characterAt mw89 1 rfl rfl (by decide) (by decide) (Nat.le_of_ble_eq_true rfl) rfl [1, 2] [0, 3, 4, 5] [0, 4, 5, 1, 2, 3] rfl (by decide +kernel) rfl (by decide +kernel) (by decide +kernel) rfl (by decide +kernel) rfl rfl ?_
              refine k_bipush C d_Reader_readBrackets_79 (v := (93 : Int32)) (by decide) rfl ?_
              refine k_icmp_ne (tgt := 87) C d_Reader_readBrackets_81 (by decide) rfl (fun c27 => ?_) (fun c27 => ?_)
              · replace h := gi_f h c27
                refine k_aload_n C d_Reader_readBrackets_87 rfl 2 rfl rfl ?_
                refine k_iload_n C d_Reader_readBrackets_88 rfl 1 rfl rfl ?_
                refine k_if_ne (tgt := 96) C d_Reader_readBrackets_89 (by decide) rfl (fun c28 => ?_) (fun c28 => ?_)
                · replace h := gi_f h c28
                  refine k_iconst C d_Reader_readBrackets_96 (v := (0 : Int32)) (by decide) rfl ?_
                  obtain ⟨⟨yrr_at_29, yrr_fault_30, ygg_readersOf_31⟩, hc32, h⟩ := bd h
                  refine k_callVd (As := [.int (0 : Int32)]) (st := []) (st' := []) (wn := w_Reader_readBrackets (cI := cI) (cJ := cJ) (cC := cC) (cZ := cZ) (cR := cR) a_r a_t a_g a_tc a_gb a_gr a_ge a_go a_gc yrr_at_29 yrr_fault_30 tt_length tt_ch gg_pieceCount_j48 gg_depth gg_ends_j48 gg_behind_j48 ygg_readersOf_31) C d_Reader_readBrackets_97 (c_Reader_readElement fu a_r a_t a_g a_tc a_gb a_gr a_ge a_go a_gc rr_at_50 rr_fault_50 tt_length tt_ch gg_pieceCount_j48 gg_depth gg_ends_j48 gg_readersOf_50 (0 : Int32) yrr_at_29 yrr_fault_30 ygg_readersOf_31 hc32) co_Reader_readElement cov_Reader_readElement mw93 0 rfl rfl (by decide) (by decide) (Nat.le_of_ble_eq_true rfl) rfl [0, 1, 2, 3, 5] [4] [1, 2, 3, 4, 0, 5] rfl (by decide +kernel) rfl (by decide +kernel) (by decide +kernel) rfl (by decide +kernel) rfl rfl ?_
                  refine k_iinc (lv' := [(2, .int (l2_50 + 1)), (1, .int l1_j48), (0, .ref a_r)]) C d_Reader_readBrackets_100 0 rfl rfl (by decide) rfl rfl ?_
                  refine k_goto (tgt := 50) C d_Reader_readBrackets_103 (by decide) ?_
                  exact ih50 (l2_50 + 1) yrr_at_29 yrr_fault_30 ygg_readersOf_31 h
                · replace h := gi_t h c28
                  refine k_iconst C d_Reader_readBrackets_92 (v := (1 : Int32)) (by decide) rfl ?_
                  refine k_goto (tgt := 97) C d_Reader_readBrackets_93 (by decide) ?_
                  obtain ⟨⟨yrr_at_33, yrr_fault_34, ygg_readersOf_35⟩, hc36, h⟩ := bd h
                  refine k_callVd (As := [.int (1 : Int32)]) (st := []) (st' := []) (wn := w_Reader_readBrackets (cI := cI) (cJ := cJ) (cC := cC) (cZ := cZ) (cR := cR) a_r a_t a_g a_tc a_gb a_gr a_ge a_go a_gc yrr_at_33 yrr_fault_34 tt_length tt_ch gg_pieceCount_j48 gg_depth gg_ends_j48 gg_behind_j48 ygg_readersOf_35) C d_Reader_readBrackets_97 (c_Reader_readElement fu a_r a_t a_g a_tc a_gb a_gr a_ge a_go a_gc rr_at_50 rr_fault_50 tt_length tt_ch gg_pieceCount_j48 gg_depth gg_ends_j48 gg_readersOf_50 (1 : Int32) yrr_at_33 yrr_fault_34 ygg_readersOf_35 hc36) co_Reader_readElement cov_Reader_readElement mw93 0 rfl rfl (by decide) (by decide) (Nat.le_of_ble_eq_true rfl) rfl [0, 1, 2, 3, 5] [4] [1, 2, 3, 4, 0, 5] rfl (by decide +kernel) rfl (by decide +kernel) (by decide +kernel) rfl (by decide +kernel) rfl rfl ?_
                  refine k_iinc (lv' := [(2, .int (l2_50 + 1)), (1, .int l1_j48), (0, .ref a_r)]) C d_Reader_readBrackets_100 0 rfl rfl (by decide) rfl rfl ?_
                  refine k_goto (tgt := 50) C d_Reader_readBrackets_103 (by decide) ?_
                  exact ih50 (l2_50 + 1) yrr_at_33 yrr_fault_34 ygg_readersOf_35 h
              · replace h := gi_t h c27
                exact hX50_1 l2_50 rr_at_50 rr_fault_50 gg_readersOf_50 h
    exact L50 (fun l2_50 rr_at_50 rr_fault_50 gg_readersOf_50 => (f_Reader_readBrackets_J106 tt_length tt_ch fu rr_at_50 rr_fault_50 gg_pieceCount_j48 gg_ends_j48 gg_behind_j48 gg_readersOf_50)) (fun l2_50 rr_at_50 rr_fault_50 gg_readersOf_50 => (f_Reader_readBrackets_J106 tt_length tt_ch fu rr_at_50 rr_fault_50 gg_pieceCount_j48 gg_ends_j48 gg_behind_j48 gg_readersOf_50)) X50_0 X50_1 fu (0 : Int32) rr_at_j48 rr_fault_j48 gg_readersOf_j48 h
  have J34 : ∀ (s0_j34 : Int32) (rr_at_j34 : Int32) (rr_fault_j34 : Int32) (gg_pieceCount_j34 : Int32) (gg_ends_j34 : Int64) (gg_behind_j34 : Nat → Int64) (gg_readersOf_j34 : Nat → Int64), f_Reader_readBrackets_J34 tt_length tt_ch fu s0_j34 rr_at_j34 rr_fault_j34 gg_pieceCount_j34 gg_ends_j34 gg_behind_j34 gg_readersOf_j34 = some (o_rr_at, o_rr_fault, o_gg_pieceCount, o_gg_ends, o_gg_behind, o_gg_readersOf) → Wk X { frames := 3, cells := 0, slots := 0, locals := 72 } 3 D (va_A (w_Reader_readBrackets (cI := cI) (cJ := cJ) (cC := cC) (cZ := cZ) (cR := cR) a_r a_t a_g a_tc a_gb a_gr a_ge a_go a_gc rr_at rr_fault tt_length tt_ch gg_pieceCount gg_depth gg_ends gg_behind gg_readersOf) (xs X).heap.size) 0 0 (GE X D (w_Reader_readBrackets (cI := cI) (cJ := cJ) (cC := cC) (cZ := cZ) (cR := cR) a_r a_t a_g a_tc a_gb a_gr a_ge a_go a_gc rr_at rr_fault tt_length tt_ch gg_pieceCount gg_depth gg_ends gg_behind gg_readersOf) (fun (o : Option Value) (w : va_W) => o = none ∧ w = w_Reader_readBrackets (cI := cI) (cJ := cJ) (cC := cC) (cZ := cZ) (cR := cR) a_r a_t a_g a_tc a_gb a_gr a_ge a_go a_gc o_rr_at o_rr_fault tt_length tt_ch o_gg_pieceCount gg_depth o_gg_ends o_gg_behind o_gg_readersOf) 0 0) (w_Reader_readBrackets (cI := cI) (cJ := cJ) (cC := cC) (cZ := cZ) (cR := cR) a_r a_t a_g a_tc a_gb a_gr a_ge a_go a_gc rr_at_j34 rr_fault_j34 tt_length tt_ch gg_pieceCount_j34 gg_depth gg_ends_j34 gg_behind_j34 gg_readersOf_j34) [(0, .ref a_r)] [.int s0_j34] 34 := by
    intro s0_j34 rr_at_j34 rr_fault_j34 gg_pieceCount_j34 gg_ends_j34 gg_behind_j34 gg_readersOf_j34 h
    refine k_istore_n (lv' := [(1, .int s0_j34), (0, .ref a_r)]) C d_Reader_readBrackets_34 rfl (by decide) rfl rfl ?_
    refine k_iload_n C d_Reader_readBrackets_35 rfl 0 rfl rfl ?_
    refine k_if_eq (tgt := 48) C d_Reader_readBrackets_36 (by decide) rfl (fun c37 => ?_) (fun c37 => ?_)
    · replace h := gi_t h c37
      exact J48 s0_j34 rr_at_j34 rr_fault_j34 gg_pieceCount_j34 gg_ends_j34 gg_behind_j34 gg_readersOf_j34 h
    · replace h := gi_f h c37
      refine k_aload_n C d_Reader_readBrackets_39 rfl 1 rfl rfl ?_
      obtain ⟨ygg_readersOf_38, hc39, h⟩ := bd h
      refine k_callVd (As := []) (st := []) (st' := []) (wn := w_Reader_readBrackets (cI := cI) (cJ := cJ) (cC := cC) (cZ := cZ) (cR := cR) a_r a_t a_g a_tc a_gb a_gr a_ge a_go a_gc rr_at_j34 rr_fault_j34 tt_length tt_ch gg_pieceCount_j34 gg_depth gg_ends_j34 gg_behind_j34 ygg_readersOf_38) C d_Reader_readBrackets_40 (c_Reader_setReadsAll fu a_r a_t a_g a_gb a_gr a_ge a_go a_gc rr_at_j34 rr_fault_j34 gg_pieceCount_j34 gg_depth gg_ends_j34 gg_readersOf_j34 ygg_readersOf_38 hc39) co_Reader_setReadsAll cov_Reader_setReadsAll mw86 0 rfl rfl (by decide) (by decide) (Nat.le_of_ble_eq_true rfl) rfl [0, 3, 5] [1, 2, 4] [3, 0, 1, 4, 2, 5] rfl (by decide +kernel) rfl (by decide +kernel) (by decide +kernel) rfl (by decide +kernel) rfl rfl ?_
      refine k_aload_n C d_Reader_readBrackets_43 rfl 1 rfl rfl ?_
      refine k_iconst C d_Reader_readBrackets_44 (v := (1 : Int32)) (by decide) rfl ?_
      obtain ⟨⟨yrr_at_40, yrr_fault_41⟩, hc42, h⟩ := bd h
      refine k_callVd (As := [.int (1 : Int32)]) (st := []) (st' := []) (wn := w_Reader_readBrackets (cI := cI) (cJ := cJ) (cC := cC) (cZ := cZ) (cR := cR) a_r a_t a_g a_tc a_gb a_gr a_ge a_go a_gc yrr_at_40 yrr_fault_41 tt_length tt_ch gg_pieceCount_j34 gg_depth gg_ends_j34 gg_behind_j34 ygg_readersOf_38) C d_Reader_readBrackets_45 (c_Reader_pass fu a_r a_t a_g rr_at_j34 rr_fault_j34 (1 : Int32) yrr_at_40 yrr_fault_41 hc42) co_Reader_pass cov_Reader_pass mw90 0 rfl rfl (by decide) (by decide) (Nat.le_of_ble_eq_true rfl) rfl [0] [1, 2, 3, 4, 5] [5, 0, 1, 2, 3, 4] rfl (by decide +kernel) rfl (by decide +kernel) (by decide +kernel) rfl (by decide +kernel) rfl rfl ?_
      exact J48 s0_j34 yrr_at_40 yrr_fault_41 gg_pieceCount_j34 gg_ends_j34 gg_behind_j34 ygg_readersOf_38 h
  refine k_aload_n C d_Reader_readBrackets_0 rfl 0 rfl rfl ?_
  refine k_iconst C d_Reader_readBrackets_1 (v := (1 : Int32)) (by decide) rfl ?_
  obtain ⟨⟨yrr_at_43, yrr_fault_44⟩, hc45, h⟩ := bd h
  refine k_callVd (As := [.int (1 : Int32)]) (st := []) (st' := []) (wn := w_Reader_readBrackets (cI := cI) (cJ := cJ) (cC := cC) (cZ := cZ) (cR := cR) a_r a_t a_g a_tc a_gb a_gr a_ge a_go a_gc yrr_at_43 yrr_fault_44 tt_length tt_ch gg_pieceCount gg_depth gg_ends gg_behind gg_readersOf) C d_Reader_readBrackets_2 (c_Reader_pass fu a_r a_t a_g rr_at rr_fault (1 : Int32) yrr_at_43 yrr_fault_44 hc45) co_Reader_pass cov_Reader_pass mw90 0 rfl rfl (by decide) (by decide) (Nat.le_of_ble_eq_true rfl) rfl [0] [1, 2, 3, 4, 5] [5, 0, 1, 2, 3, 4] rfl (by decide +kernel) rfl (by decide +kernel) (by decide +kernel) rfl (by decide +kernel) rfl rfl ?_
  refine k_aload_n C d_Reader_readBrackets_5 rfl 0 rfl rfl ?_
  refine k_getf C d_Reader_readBrackets_6 hin_Reader rfl 1 (by decide) mw82 0 rfl rfl rfl ?_
  refine k_iconst C d_Reader_readBrackets_9 (v := (0 : Int32)) (by decide) rfl ?_
  obtain ⟨⟨ygg_pieceCount_46, ygg_ends_47, ygg_behind_48⟩, hc49, h⟩ := bd h
  refine k_callVd (As := [.int (0 : Int32)]) (st := []) (st' := []) (wn := w_Reader_readBrackets (cI := cI) (cJ := cJ) (cC := cC) (cZ := cZ) (cR := cR) a_r a_t a_g a_tc a_gb a_gr a_ge a_go a_gc yrr_at_43 yrr_fault_44 tt_length tt_ch ygg_pieceCount_46 gg_depth ygg_ends_47 ygg_behind_48 gg_readersOf) C d_Reader_readBrackets_10 (c_Glob_addPiece fu a_g a_gb a_gr a_ge a_go a_gc gg_pieceCount gg_depth gg_ends gg_behind (0 : Int32) ygg_pieceCount_46 ygg_ends_47 ygg_behind_48 hc49) co_Glob_addPiece cov_Glob_addPiece mw85 3 rfl rfl (by decide) (by decide) (Nat.le_of_ble_eq_true rfl) rfl [3, 4] [0, 1, 2, 5] [0, 1, 2, 4, 5, 3] rfl (by decide +kernel) rfl (by decide +kernel) (by decide +kernel) rfl (by decide +kernel) rfl rfl ?_
  refine k_aload_n C d_Reader_readBrackets_13 rfl 0 rfl rfl ?_
  refine k_getf C d_Reader_readBrackets_14 hin_Reader rfl 0 (by decide) mw88 0 rfl rfl rfl ?_
  refine k_aload_n C d_Reader_readBrackets_17 rfl 0 rfl rfl ?_
  refine k_getf C d_Reader_readBrackets_18 hin_Reader rfl 2 (by decide) mw80 0 rfl rfl rfl ?_
  obtain ⟨r50, hc51, h⟩ := bd h
  refine k_callVd (As := [.int yrr_at_43]) (st := []) (st' := [.int r50]) (wn := w_Reader_readBrackets (cI := cI) (cJ := cJ) (cC := cC) (cZ := cZ) (cR := cR) a_r a_t a_g a_tc a_gb a_gr a_ge a_go a_gc yrr_at_43 yrr_fault_44 tt_length tt_ch ygg_pieceCount_46 gg_depth ygg_ends_47 ygg_behind_48 gg_readersOf) C d_Reader_readBrackets_21 (c_Typed_characterAt fu a_t a_tc tt_length tt_ch yrr_at_43 r50 hc51) co_Typed_characterAt cov_Typed_characterAt mw89 1 rfl rfl (by decide) (by decide) (Nat.le_of_ble_eq_true rfl) rfl [1, 2] [0, 3, 4, 5] [0, 4, 5, 1, 2, 3] rfl (by decide +kernel) rfl (by decide +kernel) (by decide +kernel) rfl (by decide +kernel) rfl rfl ?_
  refine k_bipush C d_Reader_readBrackets_24 (v := (94 : Int32)) (by decide) rfl ?_
  refine k_icmp_ne (tgt := 33) C d_Reader_readBrackets_26 (by decide) rfl (fun c52 => ?_) (fun c52 => ?_)
  · replace h := gi_f h c52
    refine k_iconst C d_Reader_readBrackets_33 (v := (0 : Int32)) (by decide) rfl ?_
    exact J34 (0 : Int32) yrr_at_43 yrr_fault_44 ygg_pieceCount_46 ygg_ends_47 ygg_behind_48 gg_readersOf h
  · replace h := gi_t h c52
    refine k_iconst C d_Reader_readBrackets_29 (v := (1 : Int32)) (by decide) rfl ?_
    refine k_goto (tgt := 34) C d_Reader_readBrackets_30 (by decide) ?_
    exact J34 (1 : Int32) yrr_at_43 yrr_fault_44 ygg_pieceCount_46 ygg_ends_47 ygg_behind_48 gg_readersOf h
theorem d_Reader_readPart_0 : decode b_Reader_readPart 0 = .ok (.aload_n 0, 1) := by decide +kernel
theorem d_Reader_readPart_1 : decode b_Reader_readPart 1 = .ok (.getfield 18, 3) := by decide +kernel
theorem d_Reader_readPart_4 : decode b_Reader_readPart 4 = .ok (.aload_n 0, 1) := by decide +kernel
theorem d_Reader_readPart_5 : decode b_Reader_readPart 5 = .ok (.getfield 22, 3) := by decide +kernel
theorem d_Reader_readPart_8 : decode b_Reader_readPart 8 = .ok (.invokevirtual 44, 3) := by decide +kernel
theorem d_Reader_readPart_11 : decode b_Reader_readPart 11 = .ok (.istore_n 1, 1) := by decide +kernel
theorem d_Reader_readPart_12 : decode b_Reader_readPart 12 = .ok (.iload_n 1, 1) := by decide +kernel
theorem d_Reader_readPart_13 : decode b_Reader_readPart 13 = .ok (.lookupswitch 175 #[(42, 161), (44, 111), (63, 148), (91, 168), (92, 136), (93, 103), (123, 75), (125, 89)], 75) := by decide +kernel
theorem d_Reader_readPart_88 : decode b_Reader_readPart 88 = .ok (.aload_n 0, 1) := by decide +kernel
theorem d_Reader_readPart_89 : decode b_Reader_readPart 89 = .ok (.aload_n 0, 1) := by decide +kernel
theorem d_Reader_readPart_90 : decode b_Reader_readPart 90 = .ok (.getfield 12, 3) := by decide +kernel
theorem d_Reader_readPart_93 : decode b_Reader_readPart 93 = .ok (.invokevirtual 48, 3) := by decide +kernel
theorem d_Reader_readPart_96 : decode b_Reader_readPart 96 = .ok (.invokevirtual 51, 3) := by decide +kernel
theorem d_Reader_readPart_99 : decode b_Reader_readPart 99 = .ok (.goto 93, 3) := by decide +kernel
theorem d_Reader_readPart_102 : decode b_Reader_readPart 102 = .ok (.aload_n 0, 1) := by decide +kernel
theorem d_Reader_readPart_103 : decode b_Reader_readPart 103 = .ok (.aload_n 0, 1) := by decide +kernel
theorem d_Reader_readPart_104 : decode b_Reader_readPart 104 = .ok (.getfield 12, 3) := by decide +kernel
theorem d_Reader_readPart_107 : decode b_Reader_readPart 107 = .ok (.invokevirtual 55, 3) := by decide +kernel
theorem d_Reader_readPart_110 : decode b_Reader_readPart 110 = .ok (.invokevirtual 51, 3) := by decide +kernel
theorem d_Reader_readPart_113 : decode b_Reader_readPart 113 = .ok (.goto 79, 3) := by decide +kernel
theorem d_Reader_readPart_116 : decode b_Reader_readPart 116 = .ok (.aload_n 0, 1) := by decide +kernel
theorem d_Reader_readPart_117 : decode b_Reader_readPart 117 = .ok (.iconst 0, 1) := by decide +kernel
theorem d_Reader_readPart_118 : decode b_Reader_readPart 118 = .ok (.invokevirtual 51, 3) := by decide +kernel
theorem d_Reader_readPart_121 : decode b_Reader_readPart 121 = .ok (.goto 71, 3) := by decide +kernel
theorem d_Reader_readPart_124 : decode b_Reader_readPart 124 = .ok (.aload_n 0, 1) := by decide +kernel
theorem d_Reader_readPart_125 : decode b_Reader_readPart 125 = .ok (.getfield 12, 3) := by decide +kernel
theorem d_Reader_readPart_128 : decode b_Reader_readPart 128 = .ok (.invokevirtual 58, 3) := by decide +kernel
theorem d_Reader_readPart_131 : decode b_Reader_readPart 131 = .ok (.ifCond .eq 11, 3) := by decide +kernel
theorem d_Reader_readPart_134 : decode b_Reader_readPart 134 = .ok (.aload_n 0, 1) := by decide +kernel
theorem d_Reader_readPart_135 : decode b_Reader_readPart 135 = .ok (.iconst 1, 1) := by decide +kernel
theorem d_Reader_readPart_136 : decode b_Reader_readPart 136 = .ok (.invokevirtual 51, 3) := by decide +kernel
theorem d_Reader_readPart_139 : decode b_Reader_readPart 139 = .ok (.goto 53, 3) := by decide +kernel
theorem d_Reader_readPart_142 : decode b_Reader_readPart 142 = .ok (.aload_n 0, 1) := by decide +kernel
theorem d_Reader_readPart_143 : decode b_Reader_readPart 143 = .ok (.invokevirtual 61, 3) := by decide +kernel
theorem d_Reader_readPart_146 : decode b_Reader_readPart 146 = .ok (.goto 46, 3) := by decide +kernel
theorem d_Reader_readPart_149 : decode b_Reader_readPart 149 = .ok (.aload_n 0, 1) := by decide +kernel
theorem d_Reader_readPart_150 : decode b_Reader_readPart 150 = .ok (.iconst 1, 1) := by decide +kernel
theorem d_Reader_readPart_151 : decode b_Reader_readPart 151 = .ok (.invokevirtual 51, 3) := by decide +kernel
theorem d_Reader_readPart_154 : decode b_Reader_readPart 154 = .ok (.aload_n 0, 1) := by decide +kernel
theorem d_Reader_readPart_155 : decode b_Reader_readPart 155 = .ok (.invokevirtual 61, 3) := by decide +kernel
theorem d_Reader_readPart_158 : decode b_Reader_readPart 158 = .ok (.goto 34, 3) := by decide +kernel
theorem d_Reader_readPart_161 : decode b_Reader_readPart 161 = .ok (.aload_n 0, 1) := by decide +kernel
theorem d_Reader_readPart_162 : decode b_Reader_readPart 162 = .ok (.iconst 0, 1) := by decide +kernel
theorem d_Reader_readPart_163 : decode b_Reader_readPart 163 = .ok (.invokevirtual 64, 3) := by decide +kernel
theorem d_Reader_readPart_166 : decode b_Reader_readPart 166 = .ok (.aload_n 0, 1) := by decide +kernel
theorem d_Reader_readPart_167 : decode b_Reader_readPart 167 = .ok (.iconst 1, 1) := by decide +kernel
theorem d_Reader_readPart_168 : decode b_Reader_readPart 168 = .ok (.invokevirtual 51, 3) := by decide +kernel
theorem d_Reader_readPart_171 : decode b_Reader_readPart 171 = .ok (.goto 21, 3) := by decide +kernel
theorem d_Reader_readPart_174 : decode b_Reader_readPart 174 = .ok (.aload_n 0, 1) := by decide +kernel
theorem d_Reader_readPart_175 : decode b_Reader_readPart 175 = .ok (.invokevirtual 67, 3) := by decide +kernel
theorem d_Reader_readPart_178 : decode b_Reader_readPart 178 = .ok (.goto 14, 3) := by decide +kernel
theorem d_Reader_readPart_181 : decode b_Reader_readPart 181 = .ok (.aload_n 0, 1) := by decide +kernel
theorem d_Reader_readPart_182 : decode b_Reader_readPart 182 = .ok (.invokevirtual 70, 3) := by decide +kernel
theorem d_Reader_readPart_185 : decode b_Reader_readPart 185 = .ok (.goto 7, 3) := by decide +kernel
theorem d_Reader_readPart_188 : decode b_Reader_readPart 188 = .ok (.aload_n 0, 1) := by decide +kernel
theorem d_Reader_readPart_189 : decode b_Reader_readPart 189 = .ok (.invokevirtual 61, 3) := by decide +kernel
theorem d_Reader_readPart_192 : decode b_Reader_readPart 192 = .ok (.return_, 1) := by decide +kernel
abbrev w_Reader_readPart {cI cJ cC cZ cR : ClassId} (a_r a_t a_g a_tc a_gb a_gr a_ge a_go a_gc : Nat) (rr_at : Int32) (rr_fault : Int32) (tt_length : Int32) (tt_ch : Nat → Int32) (gg_pieceCount : Int32) (gg_depth : Int32) (gg_ends : Int64) (gg_behind : Nat → Int64) (gg_readersOf : Nat → Int64) (gg_endsBefore : Nat → Int64) (gg_endsOfRows : Nat → Int64) (gg_rowCount : Nat → Int32) : va_W := [(a_r, .inr (1, [.ref a_t, .ref a_g, .int rr_at, .int rr_fault])), (a_t, .inr (0, [.ref a_tc, .int tt_length])), (a_tc, .inl (cC, 40, .inl tt_ch)), (a_g, .inr (2, [.ref a_gb, .ref a_gr, .ref a_ge, .ref a_go, .ref a_gc, .int gg_pieceCount, .int gg_depth, .long gg_ends])), (a_gb, .inl (cJ, 41, .inr (.inl gg_behind))), (a_gr, .inl (cJ, 95, .inr (.inl gg_readersOf))), (a_ge, .inl (cJ, 2, .inr (.inl gg_endsBefore))), (a_go, .inl (cJ, 2, .inr (.inl gg_endsOfRows))), (a_gc, .inl (cI, 2, .inl gg_rowCount))]
def f_Reader_readPart (fu : Nat) (rr_at : Int32) (rr_fault : Int32) (tt_length : Int32) (tt_ch : Nat → Int32) (gg_pieceCount : Int32) (gg_depth : Int32) (gg_ends : Int64) (gg_behind : Nat → Int64) (gg_readersOf : Nat → Int64) (gg_endsBefore : Nat → Int64) (gg_endsOfRows : Nat → Int64) (gg_rowCount : Nat → Int32) : Option (Int32 × Int32 × Int32 × Int32 × Int64 × (Nat → Int64) × (Nat → Int64) × (Nat → Int64) × (Nat → Int64) × (Nat → Int32)) := (Option.bind (f_Typed_characterAt rr_at tt_length tt_ch) fun r1 => (if r1 = (42 : Int32) then (Option.bind (f_Reader_readStars fu rr_at rr_fault tt_length tt_ch gg_pieceCount gg_ends gg_behind gg_readersOf) fun (yrr_at_4, yrr_fault_5, ygg_pieceCount_6, ygg_ends_7, ygg_behind_8, ygg_readersOf_9) => some (yrr_at_4, yrr_fault_5, ygg_pieceCount_6, gg_depth, ygg_ends_7, ygg_behind_8, ygg_readersOf_9, gg_endsBefore, gg_endsOfRows, gg_rowCount)) else (if r1 = (44 : Int32) then (Option.bind (f_Glob_beginRow gg_depth gg_ends gg_endsBefore gg_endsOfRows gg_rowCount) fun (r12, ygg_ends_13, ygg_endsOfRows_14, ygg_rowCount_15) => (if r12 = 0 then (Option.bind (f_Reader_readByte fu rr_at rr_fault tt_length tt_ch gg_pieceCount ygg_ends_13 gg_behind gg_readersOf) fun (yrr_at_18, yrr_fault_19, ygg_pieceCount_20, ygg_ends_21, ygg_behind_22, ygg_readersOf_23) => some (yrr_at_18, yrr_fault_19, ygg_pieceCount_20, gg_depth, ygg_ends_21, ygg_behind_22, ygg_readersOf_23, gg_endsBefore, ygg_endsOfRows_14, ygg_rowCount_15)) else (Option.bind (f_Reader_pass (1 : Int32) rr_at rr_fault) fun (yrr_at_25, yrr_fault_26) => some (yrr_at_25, yrr_fault_26, gg_pieceCount, gg_depth, ygg_ends_13, gg_behind, gg_readersOf, gg_endsBefore, ygg_endsOfRows_14, ygg_rowCount_15)))) else (if r1 = (63 : Int32) then (Option.bind (f_Reader_addAnyButSlash fu (0 : Int32) gg_pieceCount gg_ends gg_behind gg_readersOf) fun (ygg_pieceCount_29, ygg_ends_30, ygg_behind_31, ygg_readersOf_32) => (Option.bind (f_Reader_pass (1 : Int32) rr_at rr_fault) fun (yrr_at_34, yrr_fault_35) => some (yrr_at_34, yrr_fault_35, ygg_pieceCount_29, gg_depth, ygg_ends_30, ygg_behind_31, ygg_readersOf_32, gg_endsBefore, gg_endsOfRows, gg_rowCount))) else (if r1 = (91 : Int32) then (Option.bind (f_Reader_readBrackets fu rr_at rr_fault tt_length tt_ch gg_pieceCount gg_ends gg_behind gg_readersOf) fun (yrr_at_38, yrr_fault_39, ygg_pieceCount_40, ygg_ends_41, ygg_behind_42, ygg_readersOf_43) => some (yrr_at_38, yrr_fault_39, ygg_pieceCount_40, gg_depth, ygg_ends_41, ygg_behind_42, ygg_readersOf_43, gg_endsBefore, gg_endsOfRows, gg_rowCount)) else (if r1 = (92 : Int32) then (Option.bind (f_Reader_pass (1 : Int32) rr_at rr_fault) fun (yrr_at_46, yrr_fault_47) => (Option.bind (f_Reader_readByte fu yrr_at_46 yrr_fault_47 tt_length tt_ch gg_pieceCount gg_ends gg_behind gg_readersOf) fun (yrr_at_49, yrr_fault_50, ygg_pieceCount_51, ygg_ends_52, ygg_behind_53, ygg_readersOf_54) => some (yrr_at_49, yrr_fault_50, ygg_pieceCount_51, gg_depth, ygg_ends_52, ygg_behind_53, ygg_readersOf_54, gg_endsBefore, gg_endsOfRows, gg_rowCount))) else (if r1 = (93 : Int32) then (Option.bind (f_Reader_pass (0 : Int32) rr_at rr_fault) fun (yrr_at_57, yrr_fault_58) => some (yrr_at_57, yrr_fault_58, gg_pieceCount, gg_depth, gg_ends, gg_behind, gg_readersOf, gg_endsBefore, gg_endsOfRows, gg_rowCount)) else (if r1 = (123 : Int32) then (Option.bind (f_Glob_beginChoice gg_depth gg_ends gg_endsBefore gg_endsOfRows gg_rowCount) fun (r61, ygg_depth_62, ygg_endsBefore_63, ygg_endsOfRows_64, ygg_rowCount_65) => (Option.bind (f_Reader_pass r61 rr_at rr_fault) fun (yrr_at_67, yrr_fault_68) => some (yrr_at_67, yrr_fault_68, gg_pieceCount, ygg_depth_62, gg_ends, gg_behind, gg_readersOf, ygg_endsBefore_63, ygg_endsOfRows_64, ygg_rowCount_65))) else (if r1 = (125 : Int32) then (Option.bind (f_Glob_endChoice gg_depth gg_ends gg_endsOfRows gg_rowCount) fun (r71, ygg_depth_72, ygg_ends_73) => (Option.bind (f_Reader_pass r71 rr_at rr_fault) fun (yrr_at_75, yrr_fault_76) => some (yrr_at_75, yrr_fault_76, gg_pieceCount, ygg_depth_72, ygg_ends_73, gg_behind, gg_readersOf, gg_endsBefore, gg_endsOfRows, gg_rowCount))) else (Option.bind (f_Reader_readByte fu rr_at rr_fault tt_length tt_ch gg_pieceCount gg_ends gg_behind gg_readersOf) fun (yrr_at_78, yrr_fault_79, ygg_pieceCount_80, ygg_ends_81, ygg_behind_82, ygg_readersOf_83) => some (yrr_at_78, yrr_fault_79, ygg_pieceCount_80, gg_depth, ygg_ends_81, ygg_behind_82, ygg_readersOf_83, gg_endsBefore, gg_endsOfRows, gg_rowCount)))))))))))
set_option maxRecDepth 100000 in
set_option maxHeartbeats 4000000 in
theorem c_Reader_readPart {l : Launch} {D : va_G} {cI cJ cC cZ cR : ClassId} (fu : Nat) (a_r a_t a_g a_tc a_gb a_gr a_ge a_go a_gc : Nat)   (rr_at : Int32) (rr_fault : Int32) (tt_length : Int32) (tt_ch : Nat → Int32) (gg_pieceCount : Int32) (gg_depth : Int32) (gg_ends : Int64) (gg_behind : Nat → Int64) (gg_readersOf : Nat → Int64) (gg_endsBefore : Nat → Int64) (gg_endsOfRows : Nat → Int64) (gg_rowCount : Nat → Int32)  (o_rr_at : Int32) (o_rr_fault : Int32) (o_gg_pieceCount : Int32) (o_gg_depth : Int32) (o_gg_ends : Int64) (o_gg_behind : Nat → Int64) (o_gg_readersOf : Nat → Int64) (o_gg_endsBefore : Nat → Int64) (o_gg_endsOfRows : Nat → Int64) (o_gg_rowCount : Nat → Int32) (h : f_Reader_readPart fu rr_at rr_fault tt_length tt_ch gg_pieceCount gg_depth gg_ends gg_behind gg_readersOf gg_endsBefore gg_endsOfRows gg_rowCount = some (o_rr_at, o_rr_fault, o_gg_pieceCount, o_gg_depth, o_gg_ends, o_gg_behind, o_gg_readersOf, o_gg_endsBefore, o_gg_endsOfRows, o_gg_rowCount)) : GM l D (tysL cI cJ cC cZ cR) y_Reader_readPart b_Reader_readPart 2 none { frames := 4, cells := 0, slots := 0, locals := 94 } [.ref a_r] (w_Reader_readPart (cI := cI) (cJ := cJ) (cC := cC) (cZ := cZ) (cR := cR) a_r a_t a_g a_tc a_gb a_gr a_ge a_go a_gc rr_at rr_fault tt_length tt_ch gg_pieceCount gg_depth gg_ends gg_behind gg_readersOf gg_endsBefore gg_endsOfRows gg_rowCount) (fun (o : Option Value) (w : va_W) => o = none ∧ w = w_Reader_readPart (cI := cI) (cJ := cJ) (cC := cC) (cZ := cZ) (cR := cR) a_r a_t a_g a_tc a_gb a_gr a_ge a_go a_gc o_rr_at o_rr_fault tt_length tt_ch o_gg_pieceCount o_gg_depth o_gg_ends o_gg_behind o_gg_readersOf o_gg_endsBefore o_gg_endsOfRows o_gg_rowCount) := by
  refine GM.of (by decide) (Nat.le_of_ble_eq_true rfl) (lv := [(0, .ref a_r)]) rfl ?_
  intro X hX C
  subst hX
  refine k_aload_n C d_Reader_readPart_0 rfl 0 rfl rfl ?_
  refine k_getf C d_Reader_readPart_1 hin_Reader rfl 0 (by decide) mw88 0 rfl rfl rfl ?_
  refine k_aload_n C d_Reader_readPart_4 rfl 0 rfl rfl ?_
  refine k_getf C d_Reader_readPart_5 hin_Reader rfl 2 (by decide) mw80 0 rfl rfl rfl ?_
  obtain ⟨r1, hc2, h⟩ := bd h
  refine k_callVd (As := [.int rr_at]) (st := []) (st' := [.int r1]) (wn := w_Reader_readPart (cI := cI) (cJ := cJ) (cC := cC) (cZ := cZ) (cR := cR) a_r a_t a_g a_tc a_gb a_gr a_ge a_go a_gc rr_at rr_fault tt_length tt_ch gg_pieceCount gg_depth gg_ends gg_behind gg_readersOf gg_endsBefore gg_endsOfRows gg_rowCount) C d_Reader_readPart_8 (c_Typed_characterAt fu a_t a_tc tt_length tt_ch rr_at r1 hc2) co_Typed_characterAt cov_Typed_characterAt mw89 1 rfl rfl (by decide) (by decide) (Nat.le_of_ble_eq_true rfl) rfl [1, 2] [0, 3, 4, 5, 6, 7, 8] [0, 7, 8, 1, 2, 3, 4, 5, 6] rfl (by decide +kernel) rfl (by decide +kernel) (by decide +kernel) rfl (by decide +kernel) rfl rfl ?_
  refine k_istore_n (lv' := [(1, .int r1), (0, .ref a_r)]) C d_Reader_readPart_11 rfl (by decide) rfl rfl ?_
  refine k_iload_n C d_Reader_readPart_12 rfl 0 rfl rfl ?_
  by_cases c3 : r1 = (42 : Int32)
  · replace h := gi_t h c3
    refine k_lookup (off := 161) (tgt := 174) C d_Reader_readPart_13 rfl (by rw [c3] <;> rfl) (by decide) ?_
    refine k_aload_n C d_Reader_readPart_174 rfl 1 rfl rfl ?_
    obtain ⟨⟨yrr_at_4, yrr_fault_5, ygg_pieceCount_6, ygg_ends_7, ygg_behind_8, ygg_readersOf_9⟩, hc10, h⟩ := bd h
    refine k_callVd (As := []) (st := []) (st' := []) (wn := w_Reader_readPart (cI := cI) (cJ := cJ) (cC := cC) (cZ := cZ) (cR := cR) a_r a_t a_g a_tc a_gb a_gr a_ge a_go a_gc yrr_at_4 yrr_fault_5 tt_length tt_ch ygg_pieceCount_6 gg_depth ygg_ends_7 ygg_behind_8 ygg_readersOf_9 gg_endsBefore gg_endsOfRows gg_rowCount) C d_Reader_readPart_175 (c_Reader_readStars fu a_r a_t a_g a_tc a_gb a_gr a_ge a_go a_gc rr_at rr_fault tt_length tt_ch gg_pieceCount gg_depth gg_ends gg_behind gg_readersOf yrr_at_4 yrr_fault_5 ygg_pieceCount_6 ygg_ends_7 ygg_behind_8 ygg_readersOf_9 hc10) co_Reader_readStars cov_Reader_readStars mw94 0 rfl rfl (by decide) (by decide) (Nat.le_of_ble_eq_true rfl) rfl [0, 1, 2, 3, 4, 5] [6, 7, 8] [3, 4, 5, 6, 7, 8, 0, 1, 2] rfl (by decide +kernel) rfl (by decide +kernel) (by decide +kernel) rfl (by decide +kernel) rfl rfl ?_
    refine k_goto (tgt := 192) C d_Reader_readPart_178 (by decide) ?_
    exact k_vret C d_Reader_readPart_192 (tr1 h (fun t => (fun (o : Option Value) (w : va_W) => o = none ∧ w = w_Reader_readPart (cI := cI) (cJ := cJ) (cC := cC) (cZ := cZ) (cR := cR) a_r a_t a_g a_tc a_gb a_gr a_ge a_go a_gc (t.1) (t.2.1) tt_length tt_ch (t.2.2.1) (t.2.2.2.1) (t.2.2.2.2.1) (t.2.2.2.2.2.1) (t.2.2.2.2.2.2.1) (t.2.2.2.2.2.2.2.1) (t.2.2.2.2.2.2.2.2.1) (t.2.2.2.2.2.2.2.2.2)) none (w_Reader_readPart (cI := cI) (cJ := cJ) (cC := cC) (cZ := cZ) (cR := cR) a_r a_t a_g a_tc a_gb a_gr a_ge a_go a_gc yrr_at_4 yrr_fault_5 tt_length tt_ch ygg_pieceCount_6 gg_depth ygg_ends_7 ygg_behind_8 ygg_readersOf_9 gg_endsBefore gg_endsOfRows gg_rowCount)) ⟨rfl, rfl⟩)
  · replace h := gi_f h c3
    by_cases c11 : r1 = (44 : Int32)
    · replace h := gi_t h c11
      refine k_lookup (off := 111) (tgt := 124) C d_Reader_readPart_13 rfl (by rw [c11] <;> rfl) (by decide) ?_
      refine k_aload_n C d_Reader_readPart_124 rfl 1 rfl rfl ?_
      refine k_getf C d_Reader_readPart_125 hin_Reader rfl 1 (by decide) mw82 0 rfl rfl rfl ?_
      obtain ⟨⟨r12, ygg_ends_13, ygg_endsOfRows_14, ygg_rowCount_15⟩, hc16, h⟩ := bd h
      refine k_callVd (As := []) (st := []) (st' := [.int r12]) (wn := w_Reader_readPart (cI := cI) (cJ := cJ) (cC := cC) (cZ := cZ) (cR := cR) a_r a_t a_g a_tc a_gb a_gr a_ge a_go a_gc rr_at rr_fault tt_length tt_ch gg_pieceCount gg_depth ygg_ends_13 gg_behind gg_readersOf gg_endsBefore ygg_endsOfRows_14 ygg_rowCount_15) C d_Reader_readPart_128 (c_Glob_beginRow fu a_g a_gb a_gr a_ge a_go a_gc gg_pieceCount gg_depth gg_ends gg_endsBefore gg_endsOfRows gg_rowCount r12 ygg_ends_13 ygg_endsOfRows_14 ygg_rowCount_15 hc16) co_Glob_beginRow cov_Glob_beginRow mw95 3 rfl rfl (by decide) (by decide) (Nat.le_of_ble_eq_true rfl) rfl [3, 6, 7, 8] [0, 1, 2, 4, 5] [0, 1, 2, 5, 3, 4, 6, 7, 8] rfl (by decide +kernel) rfl (by decide +kernel) (by decide +kernel) rfl (by decide +kernel) rfl rfl ?_
      refine k_if_eq (tgt := 142) C d_Reader_readPart_131 (by decide) rfl (fun c17 => ?_) (fun c17 => ?_)
      · replace h := gi_t h c17
        refine k_aload_n C d_Reader_readPart_142 rfl 1 rfl rfl ?_
        obtain ⟨⟨yrr_at_18, yrr_fault_19, ygg_pieceCount_20, ygg_ends_21, ygg_behind_22, ygg_readersOf_23⟩, hc24, h⟩ := bd h
        refine k_callVd (As := []) (st := []) (st' := []) (wn := w_Reader_readPart (cI := cI) (cJ := cJ) (cC := cC) (cZ := cZ) (cR := cR) a_r a_t a_g a_tc a_gb a_gr a_ge a_go a_gc yrr_at_18 yrr_fault_19 tt_length tt_ch ygg_pieceCount_20 gg_depth ygg_ends_21 ygg_behind_22 ygg_readersOf_23 gg_endsBefore ygg_endsOfRows_14 ygg_rowCount_15) C d_Reader_readPart_143 (c_Reader_readByte fu a_r a_t a_g a_tc a_gb a_gr a_ge a_go a_gc rr_at rr_fault tt_length tt_ch gg_pieceCount gg_depth ygg_ends_13 gg_behind gg_readersOf yrr_at_18 yrr_fault_19 ygg_pieceCount_20 ygg_ends_21 ygg_behind_22 ygg_readersOf_23 hc24) co_Reader_readByte cov_Reader_readByte mw96 0 rfl rfl (by decide) (by decide) (Nat.le_of_ble_eq_true rfl) rfl [0, 1, 2, 3, 4, 5] [6, 7, 8] [3, 4, 5, 6, 7, 8, 0, 1, 2] rfl (by decide +kernel) rfl (by decide +kernel) (by decide +kernel) rfl (by decide +kernel) rfl rfl ?_
        refine k_goto (tgt := 192) C d_Reader_readPart_146 (by decide) ?_
        exact k_vret C d_Reader_readPart_192 (tr1 h (fun t => (fun (o : Option Value) (w : va_W) => o = none ∧ w = w_Reader_readPart (cI := cI) (cJ := cJ) (cC := cC) (cZ := cZ) (cR := cR) a_r a_t a_g a_tc a_gb a_gr a_ge a_go a_gc (t.1) (t.2.1) tt_length tt_ch (t.2.2.1) (t.2.2.2.1) (t.2.2.2.2.1) (t.2.2.2.2.2.1) (t.2.2.2.2.2.2.1) (t.2.2.2.2.2.2.2.1) (t.2.2.2.2.2.2.2.2.1) (t.2.2.2.2.2.2.2.2.2)) none (w_Reader_readPart (cI := cI) (cJ := cJ) (cC := cC) (cZ := cZ) (cR := cR) a_r a_t a_g a_tc a_gb a_gr a_ge a_go a_gc yrr_at_18 yrr_fault_19 tt_length tt_ch ygg_pieceCount_20 gg_depth ygg_ends_21 ygg_behind_22 ygg_readersOf_23 gg_endsBefore ygg_endsOfRows_14 ygg_rowCount_15)) ⟨rfl, rfl⟩)
      · replace h := gi_f h c17
        refine k_aload_n C d_Reader_readPart_134 rfl 1 rfl rfl ?_
        refine k_iconst C d_Reader_readPart_135 (v := (1 : Int32)) (by decide) rfl ?_
        obtain ⟨⟨yrr_at_25, yrr_fault_26⟩, hc27, h⟩ := bd h
        refine k_callVd (As := [.int (1 : Int32)]) (st := []) (st' := []) (wn := w_Reader_readPart (cI := cI) (cJ := cJ) (cC := cC) (cZ := cZ) (cR := cR) a_r a_t a_g a_tc a_gb a_gr a_ge a_go a_gc yrr_at_25 yrr_fault_26 tt_length tt_ch gg_pieceCount gg_depth ygg_ends_13 gg_behind gg_readersOf gg_endsBefore ygg_endsOfRows_14 ygg_rowCount_15) C d_Reader_readPart_136 (c_Reader_pass fu a_r a_t a_g rr_at rr_fault (1 : Int32) yrr_at_25 yrr_fault_26 hc27) co_Reader_pass cov_Reader_pass mw90 0 rfl rfl (by decide) (by decide) (Nat.le_of_ble_eq_true rfl) rfl [0] [1, 2, 3, 4, 5, 6, 7, 8] [8, 0, 1, 2, 3, 4, 5, 6, 7] rfl (by decide +kernel) rfl (by decide +kernel) (by decide +kernel) rfl (by decide +kernel) rfl rfl ?_
        refine k_goto (tgt := 192) C d_Reader_readPart_139 (by decide) ?_
        exact k_vret C d_Reader_readPart_192 (tr1 h (fun t => (fun (o : Option Value) (w : va_W) => o = none ∧ w = w_Reader_readPart (cI := cI) (cJ := cJ) (cC := cC) (cZ := cZ) (cR := cR) a_r a_t a_g a_tc a_gb a_gr a_ge a_go a_gc (t.1) (t.2.1) tt_length tt_ch (t.2.2.1) (t.2.2.2.1) (t.2.2.2.2.1) (t.2.2.2.2.2.1) (t.2.2.2.2.2.2.1) (t.2.2.2.2.2.2.2.1) (t.2.2.2.2.2.2.2.2.1) (t.2.2.2.2.2.2.2.2.2)) none (w_Reader_readPart (cI := cI) (cJ := cJ) (cC := cC) (cZ := cZ) (cR := cR) a_r a_t a_g a_tc a_gb a_gr a_ge a_go a_gc yrr_at_25 yrr_fault_26 tt_length tt_ch gg_pieceCount gg_depth ygg_ends_13 gg_behind gg_readersOf gg_endsBefore ygg_endsOfRows_14 ygg_rowCount_15)) ⟨rfl, rfl⟩)
    · replace h := gi_f h c11
      by_cases c28 : r1 = (63 : Int32)
      · replace h := gi_t h c28
        refine k_lookup (off := 148) (tgt := 161) C d_Reader_readPart_13 rfl (by rw [c28] <;> rfl) (by decide) ?_
        refine k_aload_n C d_Reader_readPart_161 rfl 1 rfl rfl ?_
        refine k_iconst C d_Reader_readPart_162 (v := (0 : Int32)) (by decide) rfl ?_
        obtain ⟨⟨ygg_pieceCount_29, ygg_ends_30, ygg_behind_31, ygg_readersOf_32⟩, hc33, h⟩ := bd h
        refine k_callVd (As := [.int (0 : Int32)]) (st := []) (st' := []) (wn := w_Reader_readPart (cI := cI) (cJ := cJ) (cC := cC) (cZ := cZ) (cR := cR) a_r a_t a_g a_tc a_gb a_gr a_ge a_go a_gc rr_at rr_fault tt_length tt_ch ygg_pieceCount_29 gg_depth ygg_ends_30 ygg_behind_31 ygg_readersOf_32 gg_endsBefore gg_endsOfRows gg_rowCount) C d_Reader_readPart_163 (c_Reader_addAnyButSlash fu a_r a_t a_g a_gb a_gr a_ge a_go a_gc rr_at rr_fault gg_pieceCount gg_depth gg_ends gg_behind gg_readersOf (0 : Int32) ygg_pieceCount_29 ygg_ends_30 ygg_behind_31 ygg_readersOf_32 hc33) co_Reader_addAnyButSlash cov_Reader_addAnyButSlash mw91 0 rfl rfl (by decide) (by decide) (Nat.le_of_ble_eq_true rfl) rfl [0, 3, 4, 5] [1, 2, 6, 7, 8] [5, 0, 1, 6, 7, 8, 2, 3, 4] rfl (by decide +kernel) rfl (by decide +kernel) (by decide +kernel) rfl (by decide +kernel) rfl rfl ?_
        refine k_aload_n C d_Reader_readPart_166 rfl 1 rfl rfl ?_
        refine k_iconst C d_Reader_readPart_167 (v := (1 : Int32)) (by decide) rfl ?_
        obtain ⟨⟨yrr_at_34, yrr_fault_35⟩, hc36, h⟩ := bd h
        refine k_callVd (As := [.int (1 : Int32)]) (st := []) (st' := []) (wn := w_Reader_readPart (cI := cI) (cJ := cJ) (cC := cC) (cZ := cZ) (cR := cR) a_r a_t a_g a_tc a_gb a_gr a_ge a_go a_gc yrr_at_34 yrr_fault_35 tt_length tt_ch ygg_pieceCount_29 gg_depth ygg_ends_30 ygg_behind_31 ygg_readersOf_32 gg_endsBefore gg_endsOfRows gg_rowCount) C d_Reader_readPart_168 (c_Reader_pass fu a_r a_t a_g rr_at rr_fault (1 : Int32) yrr_at_34 yrr_fault_35 hc36) co_Reader_pass cov_Reader_pass mw90 0 rfl rfl (by decide) (by decide) (Nat.le_of_ble_eq_true rfl) rfl [0] [1, 2, 3, 4, 5, 6, 7, 8] [8, 0, 1, 2, 3, 4, 5, 6, 7] rfl (by decide +kernel) rfl (by decide +kernel) (by decide +kernel) rfl (by decide +kernel) rfl rfl ?_
        refine k_goto (tgt := 192) C d_Reader_readPart_171 (by decide) ?_
        exact k_vret C d_Reader_readPart_192 (tr1 h (fun t => (fun (o : Option Value) (w : va_W) => o = none ∧ w = w_Reader_readPart (cI := cI) (cJ := cJ) (cC := cC) (cZ := cZ) (cR := cR) a_r a_t a_g a_tc a_gb a_gr a_ge a_go a_gc (t.1) (t.2.1) tt_length tt_ch (t.2.2.1) (t.2.2.2.1) (t.2.2.2.2.1) (t.2.2.2.2.2.1) (t.2.2.2.2.2.2.1) (t.2.2.2.2.2.2.2.1) (t.2.2.2.2.2.2.2.2.1) (t.2.2.2.2.2.2.2.2.2)) none (w_Reader_readPart (cI := cI) (cJ := cJ) (cC := cC) (cZ := cZ) (cR := cR) a_r a_t a_g a_tc a_gb a_gr a_ge a_go a_gc yrr_at_34 yrr_fault_35 tt_length tt_ch ygg_pieceCount_29 gg_depth ygg_ends_30 ygg_behind_31 ygg_readersOf_32 gg_endsBefore gg_endsOfRows gg_rowCount)) ⟨rfl, rfl⟩)
      · replace h := gi_f h c28
        by_cases c37 : r1 = (91 : Int32)
        · replace h := gi_t h c37
          refine k_lookup (off := 168) (tgt := 181) C d_Reader_readPart_13 rfl (by rw [c37] <;> rfl) (by decide) ?_
          refine k_aload_n C d_Reader_readPart_181 rfl 1 rfl rfl ?_
          obtain ⟨⟨yrr_at_38, yrr_fault_39, ygg_pieceCount_40, ygg_ends_41, ygg_behind_42, ygg_readersOf_43⟩, hc44, h⟩ := bd h
          refine k_callVd (As := []) (st := []) (st' := []) (wn := w_Reader_readPart (cI := cI) (cJ := cJ) (cC := cC) (cZ := cZ) (cR := cR) a_r a_t a_g a_tc a_gb a_gr a_ge a_go a_gc yrr_at_38 yrr_fault_39 tt_length tt_ch ygg_pieceCount_40 gg_depth ygg_ends_41 ygg_behind_42 ygg_readersOf_43 gg_endsBefore gg_endsOfRows gg_rowCount) C d_Reader_readPart_182 (c_Reader_readBrackets fu a_r a_t a_g a_tc a_gb a_gr a_ge a_go a_gc rr_at rr_fault tt_length tt_ch gg_pieceCount gg_depth gg_ends gg_behind gg_readersOf yrr_at_38 yrr_fault_39 ygg_pieceCount_40 ygg_ends_41 ygg_behind_42 ygg_readersOf_43 hc44) co_Reader_readBrackets cov_Reader_readBrackets mw97 0 rfl rfl (by decide) (by decide) (Nat.le_of_ble_eq_true rfl) rfl [0, 1, 2, 3, 4, 5] [6, 7, 8] [3, 4, 5, 6, 7, 8, 0, 1, 2] rfl (by decide +kernel) rfl (by decide +kernel) (by decide +kernel) rfl (by decide +kernel) rfl rfl ?_
          refine k_goto (tgt := 192) C d_Reader_readPart_185 (by decide) ?_
          exact k_vret C d_Reader_readPart_192 (tr1 h (fun t => (fun (o : Option Value) (w : va_W) => o = none ∧ w = w_Reader_readPart (cI := cI) (cJ := cJ) (cC := cC) (cZ := cZ) (cR := cR) a_r a_t a_g a_tc a_gb a_gr a_ge a_go a_gc (t.1) (t.2.1) tt_length tt_ch (t.2.2.1) (t.2.2.2.1) (t.2.2.2.2.1) (t.2.2.2.2.2.1) (t.2.2.2.2.2.2.1) (t.2.2.2.2.2.2.2.1) (t.2.2.2.2.2.2.2.2.1) (t.2.2.2.2.2.2.2.2.2)) none (w_Reader_readPart (cI := cI) (cJ := cJ) (cC := cC) (cZ := cZ) (cR := cR) a_r a_t a_g a_tc a_gb a_gr a_ge a_go a_gc yrr_at_38 yrr_fault_39 tt_length tt_ch ygg_pieceCount_40 gg_depth ygg_ends_41 ygg_behind_42 ygg_readersOf_43 gg_endsBefore gg_endsOfRows gg_rowCount)) ⟨rfl, rfl⟩)
        · replace h := gi_f h c37
          by_cases c45 : r1 = (92 : Int32)
          · replace h := gi_t h c45
            refine k_lookup (off := 136) (tgt := 149) C d_Reader_readPart_13 rfl (by rw [c45] <;> rfl) (by decide) ?_
            refine k_aload_n C d_Reader_readPart_149 rfl 1 rfl rfl ?_
            refine k_iconst C d_Reader_readPart_150 (v := (1 : Int32)) (by decide) rfl ?_
            obtain ⟨⟨yrr_at_46, yrr_fault_47⟩, hc48, h⟩ := bd h
            refine k_callVd (As := [.int (1 : Int32)]) (st := []) (st' := []) (wn := w_Reader_readPart (cI := cI) (cJ := cJ) (cC := cC) (cZ := cZ) (cR := cR) a_r a_t a_g a_tc a_gb a_gr a_ge a_go a_gc yrr_at_46 yrr_fault_47 tt_length tt_ch gg_pieceCount gg_depth gg_ends gg_behind gg_readersOf gg_endsBefore gg_endsOfRows gg_rowCount) C d_Reader_readPart_151 (c_Reader_pass fu a_r a_t a_g rr_at rr_fault (1 : Int32) yrr_at_46 yrr_fault_47 hc48) co_Reader_pass cov_Reader_pass mw90 0 rfl rfl (by decide) (by decide) (Nat.le_of_ble_eq_true rfl) rfl [0] [1, 2, 3, 4, 5, 6, 7, 8] [8, 0, 1, 2, 3, 4, 5, 6, 7] rfl (by decide +kernel) rfl (by decide +kernel) (by decide +kernel) rfl (by decide +kernel) rfl rfl ?_
            refine k_aload_n C d_Reader_readPart_154 rfl 1 rfl rfl ?_
            obtain ⟨⟨yrr_at_49, yrr_fault_50, ygg_pieceCount_51, ygg_ends_52, ygg_behind_53, ygg_readersOf_54⟩, hc55, h⟩ := bd h
            refine k_callVd (As := []) (st := []) (st' := []) (wn := w_Reader_readPart (cI := cI) (cJ := cJ) (cC := cC) (cZ := cZ) (cR := cR) a_r a_t a_g a_tc a_gb a_gr a_ge a_go a_gc yrr_at_49 yrr_fault_50 tt_length tt_ch ygg_pieceCount_51 gg_depth ygg_ends_52 ygg_behind_53 ygg_readersOf_54 gg_endsBefore gg_endsOfRows gg_rowCount) C d_Reader_readPart_155 (c_Reader_readByte fu a_r a_t a_g a_tc a_gb a_gr a_ge a_go a_gc yrr_at_46 yrr_fault_47 tt_length tt_ch gg_pieceCount gg_depth gg_ends gg_behind gg_readersOf yrr_at_49 yrr_fault_50 ygg_pieceCount_51 ygg_ends_52 ygg_behind_53 ygg_readersOf_54 hc55) co_Reader_readByte cov_Reader_readByte mw96 0 rfl rfl (by decide) (by decide) (Nat.le_of_ble_eq_true rfl) rfl [0, 1, 2, 3, 4, 5] [6, 7, 8] [3, 4, 5, 6, 7, 8, 0, 1, 2] rfl (by decide +kernel) rfl (by decide +kernel) (by decide +kernel) rfl (by decide +kernel) rfl rfl ?_
            refine k_goto (tgt := 192) C d_Reader_readPart_158 (by decide) ?_
            exact k_vret C d_Reader_readPart_192 (tr1 h (fun t => (fun (o : Option Value) (w : va_W) => o = none ∧ w = w_Reader_readPart (cI := cI) (cJ := cJ) (cC := cC) (cZ := cZ) (cR := cR) a_r a_t a_g a_tc a_gb a_gr a_ge a_go a_gc (t.1) (t.2.1) tt_length tt_ch (t.2.2.1) (t.2.2.2.1) (t.2.2.2.2.1) (t.2.2.2.2.2.1) (t.2.2.2.2.2.2.1) (t.2.2.2.2.2.2.2.1) (t.2.2.2.2.2.2.2.2.1) (t.2.2.2.2.2.2.2.2.2)) none (w_Reader_readPart (cI := cI) (cJ := cJ) (cC := cC) (cZ := cZ) (cR := cR) a_r a_t a_g a_tc a_gb a_gr a_ge a_go a_gc yrr_at_49 yrr_fault_50 tt_length tt_ch ygg_pieceCount_51 gg_depth ygg_ends_52 ygg_behind_53 ygg_readersOf_54 gg_endsBefore gg_endsOfRows gg_rowCount)) ⟨rfl, rfl⟩)
          · replace h := gi_f h c45
            by_cases c56 : r1 = (93 : Int32)
            · replace h := gi_t h c56
              refine k_lookup (off := 103) (tgt := 116) C d_Reader_readPart_13 rfl (by rw [c56] <;> rfl) (by decide) ?_
              refine k_aload_n C d_Reader_readPart_116 rfl 1 rfl rfl ?_
              refine k_iconst C d_Reader_readPart_117 (v := (0 : Int32)) (by decide) rfl ?_
              obtain ⟨⟨yrr_at_57, yrr_fault_58⟩, hc59, h⟩ := bd h
              refine k_callVd (As := [.int (0 : Int32)]) (st := []) (st' := []) (wn := w_Reader_readPart (cI := cI) (cJ := cJ) (cC := cC) (cZ := cZ) (cR := cR) a_r a_t a_g a_tc a_gb a_gr a_ge a_go a_gc yrr_at_57 yrr_fault_58 tt_length tt_ch gg_pieceCount gg_depth gg_ends gg_behind gg_readersOf gg_endsBefore gg_endsOfRows gg_rowCount) C d_Reader_readPart_118 (c_Reader_pass fu a_r a_t a_g rr_at rr_fault (0 : Int32) yrr_at_57 yrr_fault_58 hc59) co_Reader_pass cov_Reader_pass mw90 0 rfl rfl (by decide) (by decide) (Nat.le_of_ble_eq_true rfl) rfl [0] [1, 2, 3, 4, 5, 6, 7, 8] [8, 0, 1, 2, 3, 4, 5, 6, 7] rfl (by decide +kernel) rfl (by decide +kernel) (by decide +kernel) rfl (by decide +kernel) rfl rfl ?_
              refine k_goto (tgt := 192) C d_Reader_readPart_121 (by decide) ?_
              exact k_vret C d_Reader_readPart_192 (tr1 h (fun t => (fun (o : Option Value) (w : va_W) => o = none ∧ w = w_Reader_readPart (cI := cI) (cJ := cJ) (cC := cC) (cZ := cZ) (cR := cR) a_r a_t a_g a_tc a_gb a_gr a_ge a_go a_gc (t.1) (t.2.1) tt_length tt_ch (t.2.2.1) (t.2.2.2.1) (t.2.2.2.2.1) (t.2.2.2.2.2.1) (t.2.2.2.2.2.2.1) (t.2.2.2.2.2.2.2.1) (t.2.2.2.2.2.2.2.2.1) (t.2.2.2.2.2.2.2.2.2)) none (w_Reader_readPart (cI := cI) (cJ := cJ) (cC := cC) (cZ := cZ) (cR := cR) a_r a_t a_g a_tc a_gb a_gr a_ge a_go a_gc yrr_at_57 yrr_fault_58 tt_length tt_ch gg_pieceCount gg_depth gg_ends gg_behind gg_readersOf gg_endsBefore gg_endsOfRows gg_rowCount)) ⟨rfl, rfl⟩)
            · replace h := gi_f h c56
              by_cases c60 : r1 = (123 : Int32)
              · replace h := gi_t h c60
                refine k_lookup (off := 75) (tgt := 88) C d_Reader_readPart_13 rfl (by rw [c60] <;> rfl) (by decide) ?_
                refine k_aload_n C d_Reader_readPart_88 rfl 1 rfl rfl ?_
                refine k_aload_n C d_Reader_readPart_89 rfl 1 rfl rfl ?_
                refine k_getf C d_Reader_readPart_90 hin_Reader rfl 1 (by decide) mw82 0 rfl rfl rfl ?_
                obtain ⟨⟨r61, ygg_depth_62, ygg_endsBefore_63, ygg_endsOfRows_64, ygg_rowCount_65⟩, hc66, h⟩ := bd h
                refine k_callVd (As := []) (st := [.ref a_r]) (st' := [.int r61, .ref a_r]) (wn := w_Reader_readPart (cI := cI) (cJ := cJ) (cC := cC) (cZ := cZ) (cR := cR) a_r a_t a_g a_tc a_gb a_gr a_ge a_go a_gc rr_at rr_fault tt_length tt_ch gg_pieceCount ygg_depth_62 gg_ends gg_behind gg_readersOf ygg_endsBefore_63 ygg_endsOfRows_64 ygg_rowCount_65) C d_Reader_readPart_93 (c_Glob_beginChoice fu a_g a_gb a_gr a_ge a_go a_gc gg_pieceCount gg_depth gg_ends gg_endsBefore gg_endsOfRows gg_rowCount r61 ygg_depth_62 ygg_endsBefore_63 ygg_endsOfRows_64 ygg_rowCount_65 hc66) co_Glob_beginChoice cov_Glob_beginChoice mw98 3 rfl rfl (by decide) (by decide) (Nat.le_of_ble_eq_true rfl) rfl [3, 6, 7, 8] [0, 1, 2, 4, 5] [0, 1, 2, 5, 3, 4, 6, 7, 8] rfl (by decide +kernel) rfl (by decide +kernel) (by decide +kernel) rfl (by decide +kernel) rfl rfl ?_
                obtain ⟨⟨yrr_at_67, yrr_fault_68⟩, hc69, h⟩ := bd h
                refine k_callVd (As := [.int r61]) (st := []) (st' := []) (wn := w_Reader_readPart (cI := cI) (cJ := cJ) (cC := cC) (cZ := cZ) (cR := cR) a_r a_t a_g a_tc a_gb a_gr a_ge a_go a_gc yrr_at_67 yrr_fault_68 tt_length tt_ch gg_pieceCount ygg_depth_62 gg_ends gg_behind gg_readersOf ygg_endsBefore_63 ygg_endsOfRows_64 ygg_rowCount_65) C d_Reader_readPart_96 (c_Reader_pass fu a_r a_t a_g rr_at rr_fault r61 yrr_at_67 yrr_fault_68 hc69) co_Reader_pass cov_Reader_pass mw90 0 rfl rfl (by decide) (by decide) (Nat.le_of_ble_eq_true rfl) rfl [0] [1, 2, 3, 4, 5, 6, 7, 8] [8, 0, 1, 2, 3, 4, 5, 6, 7] rfl (by decide +kernel) rfl (by decide +kernel) (by decide +kernel) rfl (by decide +kernel) rfl rfl ?_
                refine k_goto (tgt := 192) C d_Reader_readPart_99 (by decide) ?_
                exact k_vret C d_Reader_readPart_192 (tr1 h (fun t => (fun (o : Option Value) (w : va_W) => o = none ∧ w = w_Reader_readPart (cI := cI) (cJ := cJ) (cC := cC) (cZ := cZ) (cR := cR) a_r a_t a_g a_tc a_gb a_gr a_ge a_go a_gc (t.1) (t.2.1) tt_length tt_ch (t.2.2.1) (t.2.2.2.1) (t.2.2.2.2.1) (t.2.2.2.2.2.1) (t.2.2.2.2.2.2.1) (t.2.2.2.2.2.2.2.1) (t.2.2.2.2.2.2.2.2.1) (t.2.2.2.2.2.2.2.2.2)) none (w_Reader_readPart (cI := cI) (cJ := cJ) (cC := cC) (cZ := cZ) (cR := cR) a_r a_t a_g a_tc a_gb a_gr a_ge a_go a_gc yrr_at_67 yrr_fault_68 tt_length tt_ch gg_pieceCount ygg_depth_62 gg_ends gg_behind gg_readersOf ygg_endsBefore_63 ygg_endsOfRows_64 ygg_rowCount_65)) ⟨rfl, rfl⟩)
              · replace h := gi_f h c60
                by_cases c70 : r1 = (125 : Int32)
                · replace h := gi_t h c70
                  refine k_lookup (off := 89) (tgt := 102) C d_Reader_readPart_13 rfl (by rw [c70] <;> rfl) (by decide) ?_
                  refine k_aload_n C d_Reader_readPart_102 rfl 1 rfl rfl ?_
                  refine k_aload_n C d_Reader_readPart_103 rfl 1 rfl rfl ?_
                  refine k_getf C d_Reader_readPart_104 hin_Reader rfl 1 (by decide) mw82 0 rfl rfl rfl ?_
                  obtain ⟨⟨r71, ygg_depth_72, ygg_ends_73⟩, hc74, h⟩ := bd h
                  refine k_callVd (As := []) (st := [.ref a_r]) (st' := [.int r71, .ref a_r]) (wn := w_Reader_readPart (cI := cI) (cJ := cJ) (cC := cC) (cZ := cZ) (cR := cR) a_r a_t a_g a_tc a_gb a_gr a_ge a_go a_gc rr_at rr_fault tt_length tt_ch gg_pieceCount ygg_depth_72 ygg_ends_73 gg_behind gg_readersOf gg_endsBefore gg_endsOfRows gg_rowCount) C d_Reader_readPart_107 (c_Glob_endChoice fu a_g a_gb a_gr a_ge a_go a_gc gg_pieceCount gg_depth gg_ends gg_endsOfRows gg_rowCount r71 ygg_depth_72 ygg_ends_73 hc74) co_Glob_endChoice cov_Glob_endChoice mw99 3 rfl rfl (by decide) (by decide) (Nat.le_of_ble_eq_true rfl) rfl [3, 7, 8] [0, 1, 2, 4, 5, 6] [0, 1, 2, 6, 3, 4, 5, 7, 8] rfl (by decide +kernel) rfl (by decide +kernel) (by decide +kernel) rfl (by decide +kernel) rfl rfl ?_
                  obtain ⟨⟨yrr_at_75, yrr_fault_76⟩, hc77, h⟩ := bd h
                  refine k_callVd (As := [.int r71]) (st := []) (st' := []) (wn := w_Reader_readPart (cI := cI) (cJ := cJ) (cC := cC) (cZ := cZ) (cR := cR) a_r a_t a_g a_tc a_gb a_gr a_ge a_go a_gc yrr_at_75 yrr_fault_76 tt_length tt_ch gg_pieceCount ygg_depth_72 ygg_ends_73 gg_behind gg_readersOf gg_endsBefore gg_endsOfRows gg_rowCount) C d_Reader_readPart_110 (c_Reader_pass fu a_r a_t a_g rr_at rr_fault r71 yrr_at_75 yrr_fault_76 hc77) co_Reader_pass cov_Reader_pass mw90 0 rfl rfl (by decide) (by decide) (Nat.le_of_ble_eq_true rfl) rfl [0] [1, 2, 3, 4, 5, 6, 7, 8] [8, 0, 1, 2, 3, 4, 5, 6, 7] rfl (by decide +kernel) rfl (by decide +kernel) (by decide +kernel) rfl (by decide +kernel) rfl rfl ?_
                  refine k_goto (tgt := 192) C d_Reader_readPart_113 (by decide) ?_
                  exact k_vret C d_Reader_readPart_192 (tr1 h (fun t => (fun (o : Option Value) (w : va_W) => o = none ∧ w = w_Reader_readPart (cI := cI) (cJ := cJ) (cC := cC) (cZ := cZ) (cR := cR) a_r a_t a_g a_tc a_gb a_gr a_ge a_go a_gc (t.1) (t.2.1) tt_length tt_ch (t.2.2.1) (t.2.2.2.1) (t.2.2.2.2.1) (t.2.2.2.2.2.1) (t.2.2.2.2.2.2.1) (t.2.2.2.2.2.2.2.1) (t.2.2.2.2.2.2.2.2.1) (t.2.2.2.2.2.2.2.2.2)) none (w_Reader_readPart (cI := cI) (cJ := cJ) (cC := cC) (cZ := cZ) (cR := cR) a_r a_t a_g a_tc a_gb a_gr a_ge a_go a_gc yrr_at_75 yrr_fault_76 tt_length tt_ch gg_pieceCount ygg_depth_72 ygg_ends_73 gg_behind gg_readersOf gg_endsBefore gg_endsOfRows gg_rowCount)) ⟨rfl, rfl⟩)
                · replace h := gi_f h c70
                  refine k_lookup (off := 175) (tgt := 188) C d_Reader_readPart_13 rfl ((lv_osw (a := 42) c3 (by decide)).trans ((lv_osw (a := 44) c11 (by decide)).trans ((lv_osw (a := 63) c28 (by decide)).trans ((lv_osw (a := 91) c37 (by decide)).trans ((lv_osw (a := 92) c45 (by decide)).trans ((lv_osw (a := 93) c56 (by decide)).trans ((lv_osw (a := 123) c60 (by decide)).trans ((lv_osw (a := 125) c70 (by decide)).trans rfl)))))))) (by decide) ?_
                  refine k_aload_n C d_Reader_readPart_188 rfl 1 rfl rfl ?_
                  obtain ⟨⟨yrr_at_78, yrr_fault_79, ygg_pieceCount_80, ygg_ends_81, ygg_behind_82, ygg_readersOf_83⟩, hc84, h⟩ := bd h
                  refine k_callVd (As := []) (st := []) (st' := []) (wn := w_Reader_readPart (cI := cI) (cJ := cJ) (cC := cC) (cZ := cZ) (cR := cR) a_r a_t a_g a_tc a_gb a_gr a_ge a_go a_gc yrr_at_78 yrr_fault_79 tt_length tt_ch ygg_pieceCount_80 gg_depth ygg_ends_81 ygg_behind_82 ygg_readersOf_83 gg_endsBefore gg_endsOfRows gg_rowCount) C d_Reader_readPart_189 (c_Reader_readByte fu a_r a_t a_g a_tc a_gb a_gr a_ge a_go a_gc rr_at rr_fault tt_length tt_ch gg_pieceCount gg_depth gg_ends gg_behind gg_readersOf yrr_at_78 yrr_fault_79 ygg_pieceCount_80 ygg_ends_81 ygg_behind_82 ygg_readersOf_83 hc84) co_Reader_readByte cov_Reader_readByte mw96 0 rfl rfl (by decide) (by decide) (Nat.le_of_ble_eq_true rfl) rfl [0, 1, 2, 3, 4, 5] [6, 7, 8] [3, 4, 5, 6, 7, 8, 0, 1, 2] rfl (by decide +kernel) rfl (by decide +kernel) (by decide +kernel) rfl (by decide +kernel) rfl rfl ?_
                  exact k_vret C d_Reader_readPart_192 (tr1 h (fun t => (fun (o : Option Value) (w : va_W) => o = none ∧ w = w_Reader_readPart (cI := cI) (cJ := cJ) (cC := cC) (cZ := cZ) (cR := cR) a_r a_t a_g a_tc a_gb a_gr a_ge a_go a_gc (t.1) (t.2.1) tt_length tt_ch (t.2.2.1) (t.2.2.2.1) (t.2.2.2.2.1) (t.2.2.2.2.2.1) (t.2.2.2.2.2.2.1) (t.2.2.2.2.2.2.2.1) (t.2.2.2.2.2.2.2.2.1) (t.2.2.2.2.2.2.2.2.2)) none (w_Reader_readPart (cI := cI) (cJ := cJ) (cC := cC) (cZ := cZ) (cR := cR) a_r a_t a_g a_tc a_gb a_gr a_ge a_go a_gc yrr_at_78 yrr_fault_79 tt_length tt_ch ygg_pieceCount_80 gg_depth ygg_ends_81 ygg_behind_82 ygg_readersOf_83 gg_endsBefore gg_endsOfRows gg_rowCount)) ⟨rfl, rfl⟩)
theorem d_Reader_read_0 : decode b_Reader_read 0 = .ok (.aload_n 0, 1) := by decide +kernel
theorem d_Reader_read_1 : decode b_Reader_read 1 = .ok (.iconst 0, 1) := by decide +kernel
theorem d_Reader_read_2 : decode b_Reader_read 2 = .ok (.putfield 22, 3) := by decide +kernel
theorem d_Reader_read_5 : decode b_Reader_read 5 = .ok (.aload_n 0, 1) := by decide +kernel
theorem d_Reader_read_6 : decode b_Reader_read 6 = .ok (.iconst (-1), 1) := by decide +kernel
theorem d_Reader_read_7 : decode b_Reader_read 7 = .ok (.putfield 26, 3) := by decide +kernel
theorem d_Reader_read_10 : decode b_Reader_read 10 = .ok (.aload_n 0, 1) := by decide +kernel
theorem d_Reader_read_11 : decode b_Reader_read 11 = .ok (.getfield 12, 3) := by decide +kernel
theorem d_Reader_read_14 : decode b_Reader_read 14 = .ok (.invokevirtual 29, 3) := by decide +kernel
theorem d_Reader_read_17 : decode b_Reader_read 17 = .ok (.aload_n 0, 1) := by decide +kernel
theorem d_Reader_read_18 : decode b_Reader_read 18 = .ok (.getfield 18, 3) := by decide +kernel
theorem d_Reader_read_21 : decode b_Reader_read 21 = .ok (.getfield 32, 3) := by decide +kernel
theorem d_Reader_read_24 : decode b_Reader_read 24 = .ok (.istore_n 1, 1) := by decide +kernel
theorem d_Reader_read_25 : decode b_Reader_read 25 = .ok (.iconst 0, 1) := by decide +kernel
theorem d_Reader_read_26 : decode b_Reader_read 26 = .ok (.istore_n 2, 1) := by decide +kernel
theorem d_Reader_read_27 : decode b_Reader_read 27 = .ok (.iload_n 2, 1) := by decide +kernel
theorem d_Reader_read_28 : decode b_Reader_read 28 = .ok (.iload_n 1, 1) := by decide +kernel
theorem d_Reader_read_29 : decode b_Reader_read 29 = .ok (.if_icmp .ge 29, 3) := by decide +kernel
theorem d_Reader_read_32 : decode b_Reader_read 32 = .ok (.aload_n 0, 1) := by decide +kernel
theorem d_Reader_read_33 : decode b_Reader_read 33 = .ok (.getfield 22, 3) := by decide +kernel
theorem d_Reader_read_36 : decode b_Reader_read 36 = .ok (.iload_n 1, 1) := by decide +kernel
theorem d_Reader_read_37 : decode b_Reader_read 37 = .ok (.if_icmp .ge 21, 3) := by decide +kernel
theorem d_Reader_read_40 : decode b_Reader_read 40 = .ok (.aload_n 0, 1) := by decide +kernel
theorem d_Reader_read_41 : decode b_Reader_read 41 = .ok (.getfield 26, 3) := by decide +kernel
theorem d_Reader_read_44 : decode b_Reader_read 44 = .ok (.iconst (-1), 1) := by decide +kernel
theorem d_Reader_read_45 : decode b_Reader_read 45 = .ok (.if_icmp .ne 13, 3) := by decide +kernel
theorem d_Reader_read_48 : decode b_Reader_read 48 = .ok (.aload_n 0, 1) := by decide +kernel
theorem d_Reader_read_49 : decode b_Reader_read 49 = .ok (.invokevirtual 37, 3) := by decide +kernel
theorem d_Reader_read_52 : decode b_Reader_read 52 = .ok (.iinc 2 1, 3) := by decide +kernel
theorem d_Reader_read_55 : decode b_Reader_read 55 = .ok (.goto (-28), 3) := by decide +kernel
theorem d_Reader_read_58 : decode b_Reader_read 58 = .ok (.aload_n 0, 1) := by decide +kernel
theorem d_Reader_read_59 : decode b_Reader_read 59 = .ok (.getfield 26, 3) := by decide +kernel
theorem d_Reader_read_62 : decode b_Reader_read 62 = .ok (.iconst (-1), 1) := by decide +kernel
theorem d_Reader_read_63 : decode b_Reader_read 63 = .ok (.if_icmp .ne 22, 3) := by decide +kernel
theorem d_Reader_read_66 : decode b_Reader_read 66 = .ok (.iload_n 1, 1) := by decide +kernel
theorem d_Reader_read_67 : decode b_Reader_read 67 = .ok (.ifCond .eq 13, 3) := by decide +kernel
theorem d_Reader_read_70 : decode b_Reader_read 70 = .ok (.aload_n 0, 1) := by decide +kernel
theorem d_Reader_read_71 : decode b_Reader_read 71 = .ok (.getfield 12, 3) := by decide +kernel
theorem d_Reader_read_74 : decode b_Reader_read 74 = .ok (.invokevirtual 40, 3) := by decide +kernel
theorem d_Reader_read_77 : decode b_Reader_read 77 = .ok (.ifCond .eq 8, 3) := by decide +kernel
theorem d_Reader_read_80 : decode b_Reader_read 80 = .ok (.aload_n 0, 1) := by decide +kernel
theorem d_Reader_read_81 : decode b_Reader_read 81 = .ok (.iload_n 1, 1) := by decide +kernel
theorem d_Reader_read_82 : decode b_Reader_read 82 = .ok (.putfield 26, 3) := by decide +kernel
theorem d_Reader_read_85 : decode b_Reader_read 85 = .ok (.aload_n 0, 1) := by decide +kernel
theorem d_Reader_read_86 : decode b_Reader_read 86 = .ok (.getfield 26, 3) := by decide +kernel
theorem d_Reader_read_89 : decode b_Reader_read 89 = .ok (.ireturn, 1) := by decide +kernel
abbrev w_Reader_read {cI cJ cC cZ cR : ClassId} (a_r a_t a_g a_tc a_gb a_gr a_ge a_go a_gc : Nat) (rr_at : Int32) (rr_fault : Int32) (tt_length : Int32) (tt_ch : Nat → Int32) (gg_pieceCount : Int32) (gg_depth : Int32) (gg_ends : Int64) (gg_behind : Nat → Int64) (gg_readersOf : Nat → Int64) (gg_endsBefore : Nat → Int64) (gg_endsOfRows : Nat → Int64) (gg_rowCount : Nat → Int32) : va_W := [(a_r, .inr (1, [.ref a_t, .ref a_g, .int rr_at, .int rr_fault])), (a_t, .inr (0, [.ref a_tc, .int tt_length])), (a_tc, .inl (cC, 40, .inl tt_ch)), (a_g, .inr (2, [.ref a_gb, .ref a_gr, .ref a_ge, .ref a_go, .ref a_gc, .int gg_pieceCount, .int gg_depth, .long gg_ends])), (a_gb, .inl (cJ, 41, .inr (.inl gg_behind))), (a_gr, .inl (cJ, 95, .inr (.inl gg_readersOf))), (a_ge, .inl (cJ, 2, .inr (.inl gg_endsBefore))), (a_go, .inl (cJ, 2, .inr (.inl gg_endsOfRows))), (a_gc, .inl (cI, 2, .inl gg_rowCount))]
def f_Reader_read_J58  (l1_j58 : Int32) (rr_at_j58 : Int32) (rr_fault_j58 : Int32) (gg_pieceCount_j58 : Int32) (gg_depth_j58 : Int32) (gg_ends_j58 : Int64) (gg_behind_j58 : Nat → Int64) (gg_readersOf_j58 : Nat → Int64) (gg_endsBefore_j58 : Nat → Int64) (gg_endsOfRows_j58 : Nat → Int64) (gg_rowCount_j58 : Nat → Int32) : Option (Int32 × Int32 × Int32 × Int32 × Int32 × Int64 × (Nat → Int64) × (Nat → Int64) × (Nat → Int64) × (Nat → Int64) × (Nat → Int32)) := (if rr_fault_j58 = (-1 : Int32) then (if l1_j58 = 0 then some (l1_j58, rr_at_j58, l1_j58, gg_pieceCount_j58, gg_depth_j58, gg_ends_j58, gg_behind_j58, gg_readersOf_j58, gg_endsBefore_j58, gg_endsOfRows_j58, gg_rowCount_j58) else (Option.bind (f_Glob_isInChoice gg_depth_j58) fun r3 => (if r3 = 0 then some (rr_fault_j58, rr_at_j58, rr_fault_j58, gg_pieceCount_j58, gg_depth_j58, gg_ends_j58, gg_behind_j58, gg_readersOf_j58, gg_endsBefore_j58, gg_endsOfRows_j58, gg_rowCount_j58) else some (l1_j58, rr_at_j58, l1_j58, gg_pieceCount_j58, gg_depth_j58, gg_ends_j58, gg_behind_j58, gg_readersOf_j58, gg_endsBefore_j58, gg_endsOfRows_j58, gg_rowCount_j58)))) else some (rr_fault_j58, rr_at_j58, rr_fault_j58, gg_pieceCount_j58, gg_depth_j58, gg_ends_j58, gg_behind_j58, gg_readersOf_j58, gg_endsBefore_j58, gg_endsOfRows_j58, gg_rowCount_j58))
def f_Reader_read_L27 (tt_length : Int32) (tt_ch : Nat → Int32) (fu : Nat) (kk27_0 : Int32 → Int32 → Int32 → Int32 → Int32 → Int64 → (Nat → Int64) → (Nat → Int64) → (Nat → Int64) → (Nat → Int64) → (Nat → Int32) → Option (Int32 × Int32 × Int32 × Int32 × Int32 × Int64 × (Nat → Int64) × (Nat → Int64) × (Nat → Int64) × (Nat → Int64) × (Nat → Int32))) : Nat → Int32 → Int32 → Int32 → Int32 → Int32 → Int64 → (Nat → Int64) → (Nat → Int64) → (Nat → Int64) → (Nat → Int64) → (Nat → Int32) → Option (Int32 × Int32 × Int32 × Int32 × Int32 × Int64 × (Nat → Int64) × (Nat → Int64) × (Nat → Int64) × (Nat → Int64) × (Nat → Int32))
  | 0, _, _, _, _, _, _, _, _, _, _, _ => none
  | n_27 + 1, l2_27, rr_at_27, rr_fault_27, gg_pieceCount_27, gg_depth_27, gg_ends_27, gg_behind_27, gg_readersOf_27, gg_endsBefore_27, gg_endsOfRows_27, gg_rowCount_27 => (if tt_length ≤ l2_27 then (kk27_0 l2_27 rr_at_27 rr_fault_27 gg_pieceCount_27 gg_depth_27 gg_ends_27 gg_behind_27 gg_readersOf_27 gg_endsBefore_27 gg_endsOfRows_27 gg_rowCount_27) else (if tt_length ≤ rr_at_27 then (kk27_0 l2_27 rr_at_27 rr_fault_27 gg_pieceCount_27 gg_depth_27 gg_ends_27 gg_behind_27 gg_readersOf_27 gg_endsBefore_27 gg_endsOfRows_27 gg_rowCount_27) else (if rr_fault_27 = (-1 : Int32) then (Option.bind (f_Reader_readPart fu rr_at_27 rr_fault_27 tt_length tt_ch gg_pieceCount_27 gg_depth_27 gg_ends_27 gg_behind_27 gg_readersOf_27 gg_endsBefore_27 gg_endsOfRows_27 gg_rowCount_27) fun (yrr_at_15, yrr_fault_16, ygg_pieceCount_17, ygg_depth_18, ygg_ends_19, ygg_behind_20, ygg_readersOf_21, ygg_endsBefore_22, ygg_endsOfRows_23, ygg_rowCount_24) => (f_Reader_read_L27 tt_length tt_ch fu kk27_0 n_27 (l2_27 + 1) yrr_at_15 yrr_fault_16 ygg_pieceCount_17 ygg_depth_18 ygg_ends_19 ygg_behind_20 ygg_readersOf_21 ygg_endsBefore_22 ygg_endsOfRows_23 ygg_rowCount_24)) else (kk27_0 l2_27 rr_at_27 rr_fault_27 gg_pieceCount_27 gg_depth_27 gg_ends_27 gg_behind_27 gg_readersOf_27 gg_endsBefore_27 gg_endsOfRows_27 gg_rowCount_27))))
theorem f_Reader_read_L27_s (tt_length : Int32) (tt_ch : Nat → Int32) (fu : Nat) (kk27_0 : Int32 → Int32 → Int32 → Int32 → Int32 → Int64 → (Nat → Int64) → (Nat → Int64) → (Nat → Int64) → (Nat → Int64) → (Nat → Int32) → Option (Int32 × Int32 × Int32 × Int32 × Int32 × Int64 × (Nat → Int64) × (Nat → Int64) × (Nat → Int64) × (Nat → Int64) × (Nat → Int32))) (n_27 : Nat) (l2_27 : Int32) (rr_at_27 : Int32) (rr_fault_27 : Int32) (gg_pieceCount_27 : Int32) (gg_depth_27 : Int32) (gg_ends_27 : Int64) (gg_behind_27 : Nat → Int64) (gg_readersOf_27 : Nat → Int64) (gg_endsBefore_27 : Nat → Int64) (gg_endsOfRows_27 : Nat → Int64) (gg_rowCount_27 : Nat → Int32) : f_Reader_read_L27 tt_length tt_ch fu kk27_0 (n_27 + 1) l2_27 rr_at_27 rr_fault_27 gg_pieceCount_27 gg_depth_27 gg_ends_27 gg_behind_27 gg_readersOf_27 gg_endsBefore_27 gg_endsOfRows_27 gg_rowCount_27 = (if tt_length ≤ l2_27 then (kk27_0 l2_27 rr_at_27 rr_fault_27 gg_pieceCount_27 gg_depth_27 gg_ends_27 gg_behind_27 gg_readersOf_27 gg_endsBefore_27 gg_endsOfRows_27 gg_rowCount_27) else (if tt_length ≤ rr_at_27 then (kk27_0 l2_27 rr_at_27 rr_fault_27 gg_pieceCount_27 gg_depth_27 gg_ends_27 gg_behind_27 gg_readersOf_27 gg_endsBefore_27 gg_endsOfRows_27 gg_rowCount_27) else (if rr_fault_27 = (-1 : Int32) then (Option.bind (f_Reader_readPart fu rr_at_27 rr_fault_27 tt_length tt_ch gg_pieceCount_27 gg_depth_27 gg_ends_27 gg_behind_27 gg_readersOf_27 gg_endsBefore_27 gg_endsOfRows_27 gg_rowCount_27) fun (yrr_at_15, yrr_fault_16, ygg_pieceCount_17, ygg_depth_18, ygg_ends_19, ygg_behind_20, ygg_readersOf_21, ygg_endsBefore_22, ygg_endsOfRows_23, ygg_rowCount_24) => (f_Reader_read_L27 tt_length tt_ch fu kk27_0 n_27 (l2_27 + 1) yrr_at_15 yrr_fault_16 ygg_pieceCount_17 ygg_depth_18 ygg_ends_19 ygg_behind_20 ygg_readersOf_21 ygg_endsBefore_22 ygg_endsOfRows_23 ygg_rowCount_24)) else (kk27_0 l2_27 rr_at_27 rr_fault_27 gg_pieceCount_27 gg_depth_27 gg_ends_27 gg_behind_27 gg_readersOf_27 gg_endsBefore_27 gg_endsOfRows_27 gg_rowCount_27)))) := rfl
def f_Reader_read (fu : Nat) (tt_length : Int32) (tt_ch : Nat → Int32) (gg_behind : Nat → Int64) (gg_readersOf : Nat → Int64) (gg_endsBefore : Nat → Int64) (gg_endsOfRows : Nat → Int64) (gg_rowCount : Nat → Int32) : Option (Int32 × Int32 × Int32 × Int32 × Int32 × Int64 × (Nat → Int64) × (Nat → Int64) × (Nat → Int64) × (Nat → Int64) × (Nat → Int32)) := (Option.bind (f_Glob_clear fu gg_behind gg_readersOf) fun (ygg_pieceCount_6, ygg_depth_7, ygg_ends_8, ygg_behind_9, ygg_readersOf_10) => (f_Reader_read_L27 tt_length tt_ch fu (fun l2_27 rr_at_27 rr_fault_27 gg_pieceCount_27 gg_depth_27 gg_ends_27 gg_behind_27 gg_readersOf_27 gg_endsBefore_27 gg_endsOfRows_27 gg_rowCount_27 => (f_Reader_read_J58  tt_length rr_at_27 rr_fault_27 gg_pieceCount_27 gg_depth_27 gg_ends_27 gg_behind_27 gg_readersOf_27 gg_endsBefore_27 gg_endsOfRows_27 gg_rowCount_27)) fu (0 : Int32) (0 : Int32) (-1 : Int32) ygg_pieceCount_6 ygg_depth_7 ygg_ends_8 ygg_behind_9 ygg_readersOf_10 gg_endsBefore gg_endsOfRows gg_rowCount))
set_option maxRecDepth 100000 in
set_option maxHeartbeats 4000000 in
theorem c_Reader_read {l : Launch} {D : va_G} {cI cJ cC cZ cR : ClassId} (fu : Nat) (a_r a_t a_g a_tc a_gb a_gr a_ge a_go a_gc : Nat)   (rr_at : Int32) (rr_fault : Int32) (tt_length : Int32) (tt_ch : Nat → Int32) (gg_pieceCount : Int32) (gg_depth : Int32) (gg_ends : Int64) (gg_behind : Nat → Int64) (gg_readersOf : Nat → Int64) (gg_endsBefore : Nat → Int64) (gg_endsOfRows : Nat → Int64) (gg_rowCount : Nat → Int32)  (o_r : Int32) (o_rr_at : Int32) (o_rr_fault : Int32) (o_gg_pieceCount : Int32) (o_gg_depth : Int32) (o_gg_ends : Int64) (o_gg_behind : Nat → Int64) (o_gg_readersOf : Nat → Int64) (o_gg_endsBefore : Nat → Int64) (o_gg_endsOfRows : Nat → Int64) (o_gg_rowCount : Nat → Int32) (h : f_Reader_read fu tt_length tt_ch gg_behind gg_readersOf gg_endsBefore gg_endsOfRows gg_rowCount = some (o_r, o_rr_at, o_rr_fault, o_gg_pieceCount, o_gg_depth, o_gg_ends, o_gg_behind, o_gg_readersOf, o_gg_endsBefore, o_gg_endsOfRows, o_gg_rowCount)) : GM l D (tysL cI cJ cC cZ cR) y_Reader_read b_Reader_read 3 (some (.int)) { frames := 5, cells := 0, slots := 0, locals := 115 } [.ref a_r] (w_Reader_read (cI := cI) (cJ := cJ) (cC := cC) (cZ := cZ) (cR := cR) a_r a_t a_g a_tc a_gb a_gr a_ge a_go a_gc rr_at rr_fault tt_length tt_ch gg_pieceCount gg_depth gg_ends gg_behind gg_readersOf gg_endsBefore gg_endsOfRows gg_rowCount) (fun (o : Option Value) (w : va_W) => o = some (.int o_r) ∧ w = w_Reader_read (cI := cI) (cJ := cJ) (cC := cC) (cZ := cZ) (cR := cR) a_r a_t a_g a_tc a_gb a_gr a_ge a_go a_gc o_rr_at o_rr_fault tt_length tt_ch o_gg_pieceCount o_gg_depth o_gg_ends o_gg_behind o_gg_readersOf o_gg_endsBefore o_gg_endsOfRows o_gg_rowCount) := by
  refine GM.of (by decide) (Nat.le_of_ble_eq_true rfl) (lv := [(0, .ref a_r)]) rfl ?_
  intro X hX C
  subst hX
  have J58 : ∀ (l2_j58 : Int32) (l1_j58 : Int32) (rr_at_j58 : Int32) (rr_fault_j58 : Int32) (gg_pieceCount_j58 : Int32) (gg_depth_j58 : Int32) (gg_ends_j58 : Int64) (gg_behind_j58 : Nat → Int64) (gg_readersOf_j58 : Nat → Int64) (gg_endsBefore_j58 : Nat → Int64) (gg_endsOfRows_j58 : Nat → Int64) (gg_rowCount_j58 : Nat → Int32), f_Reader_read_J58  l1_j58 rr_at_j58 rr_fault_j58 gg_pieceCount_j58 gg_depth_j58 gg_ends_j58 gg_behind_j58 gg_readersOf_j58 gg_endsBefore_j58 gg_endsOfRows_j58 gg_rowCount_j58 = some (o_r, o_rr_at, o_rr_fault, o_gg_pieceCount, o_gg_depth, o_gg_ends, o_gg_behind, o_gg_readersOf, o_gg_endsBefore, o_gg_endsOfRows, o_gg_rowCount) → Wk X { frames := 5, cells := 0, slots := 0, locals := 115 } 3 D (va_A (w_Reader_read (cI := cI) (cJ := cJ) (cC := cC) (cZ := cZ) (cR := cR) a_r a_t a_g a_tc a_gb a_gr a_ge a_go a_gc rr_at rr_fault tt_length tt_ch gg_pieceCount gg_depth gg_ends gg_behind gg_readersOf gg_endsBefore gg_endsOfRows gg_rowCount) (xs X).heap.size) 0 0 (GE X D (w_Reader_read (cI := cI) (cJ := cJ) (cC := cC) (cZ := cZ) (cR := cR) a_r a_t a_g a_tc a_gb a_gr a_ge a_go a_gc rr_at rr_fault tt_length tt_ch gg_pieceCount gg_depth gg_ends gg_behind gg_readersOf gg_endsBefore gg_endsOfRows gg_rowCount) (fun (o : Option Value) (w : va_W) => o = some (.int o_r) ∧ w = w_Reader_read (cI := cI) (cJ := cJ) (cC := cC) (cZ := cZ) (cR := cR) a_r a_t a_g a_tc a_gb a_gr a_ge a_go a_gc o_rr_at o_rr_fault tt_length tt_ch o_gg_pieceCount o_gg_depth o_gg_ends o_gg_behind o_gg_readersOf o_gg_endsBefore o_gg_endsOfRows o_gg_rowCount) 0 0) (w_Reader_read (cI := cI) (cJ := cJ) (cC := cC) (cZ := cZ) (cR := cR) a_r a_t a_g a_tc a_gb a_gr a_ge a_go a_gc rr_at_j58 rr_fault_j58 tt_length tt_ch gg_pieceCount_j58 gg_depth_j58 gg_ends_j58 gg_behind_j58 gg_readersOf_j58 gg_endsBefore_j58 gg_endsOfRows_j58 gg_rowCount_j58) [(2, .int l2_j58), (1, .int l1_j58), (0, .ref a_r)] [] 58 := by
    intro l2_j58 l1_j58 rr_at_j58 rr_fault_j58 gg_pieceCount_j58 gg_depth_j58 gg_ends_j58 gg_behind_j58 gg_readersOf_j58 gg_endsBefore_j58 gg_endsOfRows_j58 gg_rowCount_j58 h
    refine k_aload_n C d_Reader_read_58 rfl 2 rfl rfl ?_
    refine k_getf C d_Reader_read_59 hin_Reader rfl 3 (by decide) mw81 0 rfl rfl rfl ?_
    refine k_iconst C d_Reader_read_62 (v := (-1 : Int32)) (by decide) rfl ?_
    refine k_icmp_ne (tgt := 85) C d_Reader_read_63 (by decide) rfl (fun c1 => ?_) (fun c1 => ?_)
    · replace h := gi_f h c1
      refine k_aload_n C d_Reader_read_85 rfl 2 rfl rfl ?_
      refine k_getf C d_Reader_read_86 hin_Reader rfl 3 (by decide) mw81 0 rfl rfl rfl ?_
      exact k_iret C d_Reader_read_89 (tr1 h (fun t => (fun (o : Option Value) (w : va_W) => o = some (.int (t.1)) ∧ w = w_Reader_read (cI := cI) (cJ := cJ) (cC := cC) (cZ := cZ) (cR := cR) a_r a_t a_g a_tc a_gb a_gr a_ge a_go a_gc (t.2.1) (t.2.2.1) tt_length tt_ch (t.2.2.2.1) (t.2.2.2.2.1) (t.2.2.2.2.2.1) (t.2.2.2.2.2.2.1) (t.2.2.2.2.2.2.2.1) (t.2.2.2.2.2.2.2.2.1) (t.2.2.2.2.2.2.2.2.2.1) (t.2.2.2.2.2.2.2.2.2.2)) (some (Value.int rr_fault_j58)) (w_Reader_read (cI := cI) (cJ := cJ) (cC := cC) (cZ := cZ) (cR := cR) a_r a_t a_g a_tc a_gb a_gr a_ge a_go a_gc rr_at_j58 rr_fault_j58 tt_length tt_ch gg_pieceCount_j58 gg_depth_j58 gg_ends_j58 gg_behind_j58 gg_readersOf_j58 gg_endsBefore_j58 gg_endsOfRows_j58 gg_rowCount_j58)) ⟨rfl, rfl⟩)
    · replace h := gi_t h c1
      refine k_iload_n C d_Reader_read_66 rfl 1 rfl rfl ?_
      refine k_if_eq (tgt := 80) C d_Reader_read_67 (by decide) rfl (fun c2 => ?_) (fun c2 => ?_)
      · replace h := gi_t h c2
        refine k_aload_n C d_Reader_read_80 rfl 2 rfl rfl ?_
        refine k_iload_n C d_Reader_read_81 rfl 1 rfl rfl ?_
        refine k_putf (ws' := w_Reader_read (cI := cI) (cJ := cJ) (cC := cC) (cZ := cZ) (cR := cR) a_r a_t a_g a_tc a_gb a_gr a_ge a_go a_gc rr_at_j58 l1_j58 tt_length tt_ch gg_pieceCount_j58 gg_depth_j58 gg_ends_j58 gg_behind_j58 gg_readersOf_j58 gg_endsBefore_j58 gg_endsOfRows_j58 gg_rowCount_j58) C d_Reader_read_82 hin_Reader hty_Reader hnn_Reader rfl 3 (by decide) mw81 rfl 0 rfl rfl rfl (Nat.le_of_ble_eq_true rfl) rfl rfl ?_
        refine k_aload_n C d_Reader_read_85 rfl 2 rfl rfl ?_
        refine k_getf C d_Reader_read_86 hin_Reader rfl 3 (by decide) mw81 0 rfl rfl rfl ?_
        exact k_iret C d_Reader_read_89 (tr1 h (fun t => (fun (o : Option Value) (w : va_W) => o = some (.int (t.1)) ∧ w = w_Reader_read (cI := cI) (cJ := cJ) (cC := cC) (cZ := cZ) (cR := cR) a_r a_t a_g a_tc a_gb a_gr a_ge a_go a_gc (t.2.1) (t.2.2.1) tt_length tt_ch (t.2.2.2.1) (t.2.2.2.2.1) (t.2.2.2.2.2.1) (t.2.2.2.2.2.2.1) (t.2.2.2.2.2.2.2.1) (t.2.2.2.2.2.2.2.2.1) (t.2.2.2.2.2.2.2.2.2.1) (t.2.2.2.2.2.2.2.2.2.2)) (some (Value.int l1_j58)) (w_Reader_read (cI := cI) (cJ := cJ) (cC := cC) (cZ := cZ) (cR := cR) a_r a_t a_g a_tc a_gb a_gr a_ge a_go a_gc rr_at_j58 l1_j58 tt_length tt_ch gg_pieceCount_j58 gg_depth_j58 gg_ends_j58 gg_behind_j58 gg_readersOf_j58 gg_endsBefore_j58 gg_endsOfRows_j58 gg_rowCount_j58)) ⟨rfl, rfl⟩)
      · replace h := gi_f h c2
        refine k_aload_n C d_Reader_read_70 rfl 2 rfl rfl ?_
        refine k_getf C d_Reader_read_71 hin_Reader rfl 1 (by decide) mw82 0 rfl rfl rfl ?_
        obtain ⟨r3, hc4, h⟩ := bd h
        refine k_callVd (As := []) (st := []) (st' := [.int r3]) (wn := w_Reader_read (cI := cI) (cJ := cJ) (cC := cC) (cZ := cZ) (cR := cR) a_r a_t a_g a_tc a_gb a_gr a_ge a_go a_gc rr_at_j58 rr_fault_j58 tt_length tt_ch gg_pieceCount_j58 gg_depth_j58 gg_ends_j58 gg_behind_j58 gg_readersOf_j58 gg_endsBefore_j58 gg_endsOfRows_j58 gg_rowCount_j58) C d_Reader_read_74 (c_Glob_isInChoice fu a_g a_gb a_gr a_ge a_go a_gc gg_pieceCount_j58 gg_depth_j58 gg_ends_j58 r3 hc4) co_Glob_isInChoice cov_Glob_isInChoice mw101 3 rfl rfl (by decide) (by decide) (Nat.le_of_ble_eq_true rfl) rfl [3] [0, 1, 2, 4, 5, 6, 7, 8] [0, 1, 2, 8, 3, 4, 5, 6, 7] rfl (by decide +kernel) rfl (by decide +kernel) (by decide +kernel) rfl (by decide +kernel) rfl rfl ?_
        refine k_if_eq (tgt := 85) C d_Reader_read_77 (by decide) rfl (fun c5 => ?_) (fun c5 => ?_)
        · replace h := gi_t h c5
          refine k_aload_n C d_Reader_read_85 rfl 2 rfl rfl ?_
          refine k_getf C d_Reader_read_86 hin_Reader rfl 3 (by decide) mw81 0 rfl rfl rfl ?_
          exact k_iret C d_Reader_read_89 (tr1 h (fun t => (fun (o : Option Value) (w : va_W) => o = some (.int (t.1)) ∧ w = w_Reader_read (cI := cI) (cJ := cJ) (cC := cC) (cZ := cZ) (cR := cR) a_r a_t a_g a_tc a_gb a_gr a_ge a_go a_gc (t.2.1) (t.2.2.1) tt_length tt_ch (t.2.2.2.1) (t.2.2.2.2.1) (t.2.2.2.2.2.1) (t.2.2.2.2.2.2.1) (t.2.2.2.2.2.2.2.1) (t.2.2.2.2.2.2.2.2.1) (t.2.2.2.2.2.2.2.2.2.1) (t.2.2.2.2.2.2.2.2.2.2)) (some (Value.int rr_fault_j58)) (w_Reader_read (cI := cI) (cJ := cJ) (cC := cC) (cZ := cZ) (cR := cR) a_r a_t a_g a_tc a_gb a_gr a_ge a_go a_gc rr_at_j58 rr_fault_j58 tt_length tt_ch gg_pieceCount_j58 gg_depth_j58 gg_ends_j58 gg_behind_j58 gg_readersOf_j58 gg_endsBefore_j58 gg_endsOfRows_j58 gg_rowCount_j58)) ⟨rfl, rfl⟩)
        · replace h := gi_f h c5
          refine k_aload_n C d_Reader_read_80 rfl 2 rfl rfl ?_
          refine k_iload_n C d_Reader_read_81 rfl 1 rfl rfl ?_
          refine k_putf (ws' := w_Reader_read (cI := cI) (cJ := cJ) (cC := cC) (cZ := cZ) (cR := cR) a_r a_t a_g a_tc a_gb a_gr a_ge a_go a_gc rr_at_j58 l1_j58 tt_length tt_ch gg_pieceCount_j58 gg_depth_j58 gg_ends_j58 gg_behind_j58 gg_readersOf_j58 gg_endsBefore_j58 gg_endsOfRows_j58 gg_rowCount_j58) C d_Reader_read_82 hin_Reader hty_Reader hnn_Reader rfl 3 (by decide) mw81 rfl 0 rfl rfl rfl (Nat.le_of_ble_eq_true rfl) rfl rfl ?_
          refine k_aload_n C d_Reader_read_85 rfl 2 rfl rfl ?_
          refine k_getf C d_Reader_read_86 hin_Reader rfl 3 (by decide) mw81 0 rfl rfl rfl ?_
          exact k_iret C d_Reader_read_89 (tr1 h (fun t => (fun (o : Option Value) (w : va_W) => o = some (.int (t.1)) ∧ w = w_Reader_read (cI := cI) (cJ := cJ) (cC := cC) (cZ := cZ) (cR := cR) a_r a_t a_g a_tc a_gb a_gr a_ge a_go a_gc (t.2.1) (t.2.2.1) tt_length tt_ch (t.2.2.2.1) (t.2.2.2.2.1) (t.2.2.2.2.2.1) (t.2.2.2.2.2.2.1) (t.2.2.2.2.2.2.2.1) (t.2.2.2.2.2.2.2.2.1) (t.2.2.2.2.2.2.2.2.2.1) (t.2.2.2.2.2.2.2.2.2.2)) (some (Value.int l1_j58)) (w_Reader_read (cI := cI) (cJ := cJ) (cC := cC) (cZ := cZ) (cR := cR) a_r a_t a_g a_tc a_gb a_gr a_ge a_go a_gc rr_at_j58 l1_j58 tt_length tt_ch gg_pieceCount_j58 gg_depth_j58 gg_ends_j58 gg_behind_j58 gg_readersOf_j58 gg_endsBefore_j58 gg_endsOfRows_j58 gg_rowCount_j58)) ⟨rfl, rfl⟩)
  refine k_aload_n C d_Reader_read_0 rfl 0 rfl rfl ?_
  refine k_iconst C d_Reader_read_1 (v := (0 : Int32)) (by decide) rfl ?_
  refine k_putf (ws' := w_Reader_read (cI := cI) (cJ := cJ) (cC := cC) (cZ := cZ) (cR := cR) a_r a_t a_g a_tc a_gb a_gr a_ge a_go a_gc (0 : Int32) rr_fault tt_length tt_ch gg_pieceCount gg_depth gg_ends gg_behind gg_readersOf gg_endsBefore gg_endsOfRows gg_rowCount) C d_Reader_read_2 hin_Reader hty_Reader hnn_Reader rfl 2 (by decide) mw80 rfl 0 rfl rfl rfl (Nat.le_of_ble_eq_true rfl) rfl rfl ?_
  refine k_aload_n C d_Reader_read_5 rfl 0 rfl rfl ?_
  refine k_iconst C d_Reader_read_6 (v := (-1 : Int32)) (by decide) rfl ?_
  refine k_putf (ws' := w_Reader_read (cI := cI) (cJ := cJ) (cC := cC) (cZ := cZ) (cR := cR) a_r a_t a_g a_tc a_gb a_gr a_ge a_go a_gc (0 : Int32) (-1 : Int32) tt_length tt_ch gg_pieceCount gg_depth gg_ends gg_behind gg_readersOf gg_endsBefore gg_endsOfRows gg_rowCount) C d_Reader_read_7 hin_Reader hty_Reader hnn_Reader rfl 3 (by decide) mw81 rfl 0 rfl rfl rfl (Nat.le_of_ble_eq_true rfl) rfl rfl ?_
  refine k_aload_n C d_Reader_read_10 rfl 0 rfl rfl ?_
  refine k_getf C d_Reader_read_11 hin_Reader rfl 1 (by decide) mw82 0 rfl rfl rfl ?_
  obtain ⟨⟨ygg_pieceCount_6, ygg_depth_7, ygg_ends_8, ygg_behind_9, ygg_readersOf_10⟩, hc11, h⟩ := bd h
  refine k_callVd (As := []) (st := []) (st' := []) (wn := w_Reader_read (cI := cI) (cJ := cJ) (cC := cC) (cZ := cZ) (cR := cR) a_r a_t a_g a_tc a_gb a_gr a_ge a_go a_gc (0 : Int32) (-1 : Int32) tt_length tt_ch ygg_pieceCount_6 ygg_depth_7 ygg_ends_8 ygg_behind_9 ygg_readersOf_10 gg_endsBefore gg_endsOfRows gg_rowCount) C d_Reader_read_14 (c_Glob_clear fu a_g a_gb a_gr a_ge a_go a_gc gg_pieceCount gg_depth gg_ends gg_behind gg_readersOf ygg_pieceCount_6 ygg_depth_7 ygg_ends_8 ygg_behind_9 ygg_readersOf_10 hc11) co_Glob_clear cov_Glob_clear mw102 3 rfl rfl (by decide) (by decide) (Nat.le_of_ble_eq_true rfl) rfl [3, 4, 5] [0, 1, 2, 6, 7, 8] [0, 1, 2, 6, 7, 8, 3, 4, 5] rfl (by decide +kernel) rfl (by decide +kernel) (by decide +kernel) rfl (by decide +kernel) rfl rfl ?_
  refine k_aload_n C d_Reader_read_17 rfl 0 rfl rfl ?_
  refine k_getf C d_Reader_read_18 hin_Reader rfl 0 (by decide) mw88 0 rfl rfl rfl ?_
  refine k_getN C d_Reader_read_21 hin_Typed rfl 1 (by decide) mw100 1 rfl rfl rfl ?_
  refine k_istore_n (lv' := [(1, .int tt_length), (0, .ref a_r)]) C d_Reader_read_24 rfl (by decide) rfl rfl ?_
  refine k_iconst C d_Reader_read_25 (v := (0 : Int32)) (by decide) rfl ?_
  refine k_istore_n (lv' := [(2, .int (0 : Int32)), (1, .int tt_length), (0, .ref a_r)]) C d_Reader_read_26 rfl (by decide) rfl rfl ?_
  have X27_0 : ∀ (l2_27 : Int32) (rr_at_27 : Int32) (rr_fault_27 : Int32) (gg_pieceCount_27 : Int32) (gg_depth_27 : Int32) (gg_ends_27 : Int64) (gg_behind_27 : Nat → Int64) (gg_readersOf_27 : Nat → Int64) (gg_endsBefore_27 : Nat → Int64) (gg_endsOfRows_27 : Nat → Int64) (gg_rowCount_27 : Nat → Int32), (f_Reader_read_J58  tt_length rr_at_27 rr_fault_27 gg_pieceCount_27 gg_depth_27 gg_ends_27 gg_behind_27 gg_readersOf_27 gg_endsBefore_27 gg_endsOfRows_27 gg_rowCount_27) = some (o_r, o_rr_at, o_rr_fault, o_gg_pieceCount, o_gg_depth, o_gg_ends, o_gg_behind, o_gg_readersOf, o_gg_endsBefore, o_gg_endsOfRows, o_gg_rowCount) → Wk X { frames := 5, cells := 0, slots := 0, locals := 115 } 3 D (va_A (w_Reader_read (cI := cI) (cJ := cJ) (cC := cC) (cZ := cZ) (cR := cR) a_r a_t a_g a_tc a_gb a_gr a_ge a_go a_gc rr_at rr_fault tt_length tt_ch gg_pieceCount gg_depth gg_ends gg_behind gg_readersOf gg_endsBefore gg_endsOfRows gg_rowCount) (xs X).heap.size) 0 0 (GE X D (w_Reader_read (cI := cI) (cJ := cJ) (cC := cC) (cZ := cZ) (cR := cR) a_r a_t a_g a_tc a_gb a_gr a_ge a_go a_gc rr_at rr_fault tt_length tt_ch gg_pieceCount gg_depth gg_ends gg_behind gg_readersOf gg_endsBefore gg_endsOfRows gg_rowCount) (fun (o : Option Value) (w : va_W) => o = some (.int o_r) ∧ w = w_Reader_read (cI := cI) (cJ := cJ) (cC := cC) (cZ := cZ) (cR := cR) a_r a_t a_g a_tc a_gb a_gr a_ge a_go a_gc o_rr_at o_rr_fault tt_length tt_ch o_gg_pieceCount o_gg_depth o_gg_ends o_gg_behind o_gg_readersOf o_gg_endsBefore o_gg_endsOfRows o_gg_rowCount) 0 0) (w_Reader_read (cI := cI) (cJ := cJ) (cC := cC) (cZ := cZ) (cR := cR) a_r a_t a_g a_tc a_gb a_gr a_ge a_go a_gc rr_at_27 rr_fault_27 tt_length tt_ch gg_pieceCount_27 gg_depth_27 gg_ends_27 gg_behind_27 gg_readersOf_27 gg_endsBefore_27 gg_endsOfRows_27 gg_rowCount_27) [(2, .int l2_27), (1, .int tt_length), (0, .ref a_r)] [] 58 := by
    intro l2_27 rr_at_27 rr_fault_27 gg_pieceCount_27 gg_depth_27 gg_ends_27 gg_behind_27 gg_readersOf_27 gg_endsBefore_27 gg_endsOfRows_27 gg_rowCount_27 h
    exact J58 l2_27 tt_length rr_at_27 rr_fault_27 gg_pieceCount_27 gg_depth_27 gg_ends_27 gg_behind_27 gg_readersOf_27 gg_endsBefore_27 gg_endsOfRows_27 gg_rowCount_27 h
  have L27 : ∀ (kk27_0 : Int32 → Int32 → Int32 → Int32 → Int32 → Int64 → (Nat → Int64) → (Nat → Int64) → (Nat → Int64) → (Nat → Int64) → (Nat → Int32) → Option (Int32 × Int32 × Int32 × Int32 × Int32 × Int64 × (Nat → Int64) × (Nat → Int64) × (Nat → Int64) × (Nat → Int64) × (Nat → Int32))) (hX27_0 : ∀ (l2_27 : Int32) (rr_at_27 : Int32) (rr_fault_27 : Int32) (gg_pieceCount_27 : Int32) (gg_depth_27 : Int32) (gg_ends_27 : Int64) (gg_behind_27 : Nat → Int64) (gg_readersOf_27 : Nat → Int64) (gg_endsBefore_27 : Nat → Int64) (gg_endsOfRows_27 : Nat → Int64) (gg_rowCount_27 : Nat → Int32), kk27_0 l2_27 rr_at_27 rr_fault_27 gg_pieceCount_27 gg_depth_27 gg_ends_27 gg_behind_27 gg_readersOf_27 gg_endsBefore_27 gg_endsOfRows_27 gg_rowCount_27 = some (o_r, o_rr_at, o_rr_fault, o_gg_pieceCount, o_gg_depth, o_gg_ends, o_gg_behind, o_gg_readersOf, o_gg_endsBefore, o_gg_endsOfRows, o_gg_rowCount) → Wk X { frames := 5, cells := 0, slots := 0, locals := 115 } 3 D (va_A (w_Reader_read (cI := cI) (cJ := cJ) (cC := cC) (cZ := cZ) (cR := cR) a_r a_t a_g a_tc a_gb a_gr a_ge a_go a_gc rr_at rr_fault tt_length tt_ch gg_pieceCount gg_depth gg_ends gg_behind gg_readersOf gg_endsBefore gg_endsOfRows gg_rowCount) (xs X).heap.size) 0 0 (GE X D (w_Reader_read (cI := cI) (cJ := cJ) (cC := cC) (cZ := cZ) (cR := cR) a_r a_t a_g a_tc a_gb a_gr a_ge a_go a_gc rr_at rr_fault tt_length tt_ch gg_pieceCount gg_depth gg_ends gg_behind gg_readersOf gg_endsBefore gg_endsOfRows gg_rowCount) (fun (o : Option Value) (w : va_W) => o = some (.int o_r) ∧ w = w_Reader_read (cI := cI) (cJ := cJ) (cC := cC) (cZ := cZ) (cR := cR) a_r a_t a_g a_tc a_gb a_gr a_ge a_go a_gc o_rr_at o_rr_fault tt_length tt_ch o_gg_pieceCount o_gg_depth o_gg_ends o_gg_behind o_gg_readersOf o_gg_endsBefore o_gg_endsOfRows o_gg_rowCount) 0 0) (w_Reader_read (cI := cI) (cJ := cJ) (cC := cC) (cZ := cZ) (cR := cR) a_r a_t a_g a_tc a_gb a_gr a_ge a_go a_gc rr_at_27 rr_fault_27 tt_length tt_ch gg_pieceCount_27 gg_depth_27 gg_ends_27 gg_behind_27 gg_readersOf_27 gg_endsBefore_27 gg_endsOfRows_27 gg_rowCount_27) [(2, .int l2_27), (1, .int tt_length), (0, .ref a_r)] [] 58) (n_27 : Nat) (l2_27 : Int32) (rr_at_27 : Int32) (rr_fault_27 : Int32) (gg_pieceCount_27 : Int32) (gg_depth_27 : Int32) (gg_ends_27 : Int64) (gg_behind_27 : Nat → Int64) (gg_readersOf_27 : Nat → Int64) (gg_endsBefore_27 : Nat → Int64) (gg_endsOfRows_27 : Nat → Int64) (gg_rowCount_27 : Nat → Int32), f_Reader_read_L27 tt_length tt_ch fu kk27_0 n_27 l2_27 rr_at_27 rr_fault_27 gg_pieceCount_27 gg_depth_27 gg_ends_27 gg_behind_27 gg_readersOf_27 gg_endsBefore_27 gg_endsOfRows_27 gg_rowCount_27 = some (o_r, o_rr_at, o_rr_fault, o_gg_pieceCount, o_gg_depth, o_gg_ends, o_gg_behind, o_gg_readersOf, o_gg_endsBefore, o_gg_endsOfRows, o_gg_rowCount) → Wk X { frames := 5, cells := 0, slots := 0, locals := 115 } 3 D (va_A (w_Reader_read (cI := cI) (cJ := cJ) (cC := cC) (cZ := cZ) (cR := cR) a_r a_t a_g a_tc a_gb a_gr a_ge a_go a_gc rr_at rr_fault tt_length tt_ch gg_pieceCount gg_depth gg_ends gg_behind gg_readersOf gg_endsBefore gg_endsOfRows gg_rowCount) (xs X).heap.size) 0 0 (GE X D (w_Reader_read (cI := cI) (cJ := cJ) (cC := cC) (cZ := cZ) (cR := cR) a_r a_t a_g a_tc a_gb a_gr a_ge a_go a_gc rr_at rr_fault tt_length tt_ch gg_pieceCount gg_depth gg_ends gg_behind gg_readersOf gg_endsBefore gg_endsOfRows gg_rowCount) (fun (o : Option Value) (w : va_W) => o = some (.int o_r) ∧ w = w_Reader_read (cI := cI) (cJ := cJ) (cC := cC) (cZ := cZ) (cR := cR) a_r a_t a_g a_tc a_gb a_gr a_ge a_go a_gc o_rr_at o_rr_fault tt_length tt_ch o_gg_pieceCount o_gg_depth o_gg_ends o_gg_behind o_gg_readersOf o_gg_endsBefore o_gg_endsOfRows o_gg_rowCount) 0 0) (w_Reader_read (cI := cI) (cJ := cJ) (cC := cC) (cZ := cZ) (cR := cR) a_r a_t a_g a_tc a_gb a_gr a_ge a_go a_gc rr_at_27 rr_fault_27 tt_length tt_ch gg_pieceCount_27 gg_depth_27 gg_ends_27 gg_behind_27 gg_readersOf_27 gg_endsBefore_27 gg_endsOfRows_27 gg_rowCount_27) [(2, .int l2_27), (1, .int tt_length), (0, .ref a_r)] [] 27 := by
    intro kk27_0 hX27_0 n_27
    induction n_27 with
    | zero =>
      intro l2_27 rr_at_27 rr_fault_27 gg_pieceCount_27 gg_depth_27 gg_ends_27 gg_behind_27 gg_readersOf_27 gg_endsBefore_27 gg_endsOfRows_27 gg_rowCount_27 h
      exact nS h
    | succ n_27 ih27 =>
      intro l2_27 rr_at_27 rr_fault_27 gg_pieceCount_27 gg_depth_27 gg_ends_27 gg_behind_27 gg_readersOf_27 gg_endsBefore_27 gg_endsOfRows_27 gg_rowCount_27 h
      replace h := (f_Reader_read_L27_s _ _ _ _ _ _ _ _ _ _ _ _ _ _ _ _).symm.trans h
      refine k_iload_n C d_Reader_read_27 rfl 0 rfl rfl ?_
      refine k_iload_n C d_Reader_read_28 rfl 1 rfl rfl ?_
      refine k_icmp_ge (tgt := 58) C d_Reader_read_29 (by decide) rfl (fun c12 => ?_) (fun c12 => ?_)
      · replace h := gi_t h c12
        exact hX27_0 l2_27 rr_at_27 rr_fault_27 gg_pieceCount_27 gg_depth_27 gg_ends_27 gg_behind_27 gg_readersOf_27 gg_endsBefore_27 gg_endsOfRows_27 gg_rowCount_27 h
      · replace h := gi_f h c12
        refine k_aload_n C d_Reader_read_32 rfl 2 rfl rfl ?_
        refine k_getf C d_Reader_read_33 hin_Reader rfl 2 (by decide) mw80 0 rfl rfl rfl ?_
        refine k_iload_n C d_Reader_read_36 rfl 1 rfl rfl ?_
        refine k_icmp_ge (tgt := 58) C d_Reader_read_37 (by decide) rfl (fun c13 => ?_) (fun c13 => ?_)
        · replace h := gi_t h c13
          exact hX27_0 l2_27 rr_at_27 rr_fault_27 gg_pieceCount_27 gg_depth_27 gg_ends_27 gg_behind_27 gg_readersOf_27 gg_endsBefore_27 gg_endsOfRows_27 gg_rowCount_27 h
        · replace h := gi_f h c13
          refine k_aload_n C d_Reader_read_40 rfl 2 rfl rfl ?_
          refine k_getf C d_Reader_read_41 hin_Reader rfl 3 (by decide) mw81 0 rfl rfl rfl ?_
          refine k_iconst C d_Reader_read_44 (v := (-1 : Int32)) (by decide) rfl ?_
          refine k_icmp_ne (tgt := 58) C d_Reader_read_45 (by decide) rfl (fun c14 => ?_) (fun c14 => ?_)
          · replace h := gi_f h c14
            exact hX27_0 l2_27 rr_at_27 rr_fault_27 gg_pieceCount_27 gg_depth_27 gg_ends_27 gg_behind_27 gg_readersOf_27 gg_endsBefore_27 gg_endsOfRows_27 gg_rowCount_27 h
          · replace h := gi_t h c14
            refine k_aload_n C d_Reader_read_48 rfl 2 rfl rfl ?_
            obtain ⟨⟨yrr_at_15, yrr_fault_16, ygg_pieceCount_17, ygg_depth_18, ygg_ends_19, ygg_behind_20, ygg_readersOf_21, ygg_endsBefore_22, ygg_endsOfRows_23, ygg_rowCount_24⟩, hc25, h⟩ := bd h
            refine k_callVd (As := []) (st := []) (st' := []) (wn := w_Reader_read (cI := cI) (cJ := cJ) (cC := cC) (cZ := cZ) (cR := cR) a_r a_t a_g a_tc a_gb a_gr a_ge a_go a_gc yrr_at_15 yrr_fault_16 tt_length tt_ch ygg_pieceCount_17 ygg_depth_18 ygg_ends_19 ygg_behind_20 ygg_readersOf_21 ygg_endsBefore_22 ygg_endsOfRows_23 ygg_rowCount_24) C d_Reader_read_49 (c_Reader_readPart fu a_r a_t a_g a_tc a_gb a_gr a_ge a_go a_gc rr_at_27 rr_fault_27 tt_length tt_ch gg_pieceCount_27 gg_depth_27 gg_ends_27 gg_behind_27 gg_readersOf_27 gg_endsBefore_27 gg_endsOfRows_27 gg_rowCount_27 yrr_at_15 yrr_fault_16 ygg_pieceCount_17 ygg_depth_18 ygg_ends_19 ygg_behind_20 ygg_readersOf_21 ygg_endsBefore_22 ygg_endsOfRows_23 ygg_rowCount_24 hc25) co_Reader_readPart cov_Reader_readPart mw103 0 rfl rfl (by decide) (by decide) (Nat.le_of_ble_eq_true rfl) rfl [0, 1, 2, 3, 4, 5, 6, 7, 8] [] [0, 1, 2, 3, 4, 5, 6, 7, 8] rfl (by decide +kernel) rfl (by decide +kernel) (by decide +kernel) rfl (by decide +kernel) rfl rfl ?_
            refine k_iinc (lv' := [(2, .int (l2_27 + 1)), (1, .int tt_length), (0, .ref a_r)]) C d_Reader_read_52 0 rfl rfl (by decide) rfl rfl ?_
            refine k_goto (tgt := 27) C d_Reader_read_55 (by decide) ?_
            exact ih27 (l2_27 + 1) yrr_at_15 yrr_fault_16 ygg_pieceCount_17 ygg_depth_18 ygg_ends_19 ygg_behind_20 ygg_readersOf_21 ygg_endsBefore_22 ygg_endsOfRows_23 ygg_rowCount_24 h
  exact L27 (fun l2_27 rr_at_27 rr_fault_27 gg_pieceCount_27 gg_depth_27 gg_ends_27 gg_behind_27 gg_readersOf_27 gg_endsBefore_27 gg_endsOfRows_27 gg_rowCount_27 => (f_Reader_read_J58  tt_length rr_at_27 rr_fault_27 gg_pieceCount_27 gg_depth_27 gg_ends_27 gg_behind_27 gg_readersOf_27 gg_endsBefore_27 gg_endsOfRows_27 gg_rowCount_27)) X27_0 fu (0 : Int32) (0 : Int32) (-1 : Int32) ygg_pieceCount_6 ygg_depth_7 ygg_ends_8 ygg_behind_9 ygg_readersOf_10 gg_endsBefore gg_endsOfRows gg_rowCount h
