theorem d_Glob_clear_0 : decode b_Glob_clear 0 = .ok (.aload_n 0, 1) := by decide +kernel
theorem d_Glob_clear_1 : decode b_Glob_clear 1 = .ok (.getfield 9, 3) := by decide +kernel
theorem d_Glob_clear_4 : decode b_Glob_clear 4 = .ok (.lconst 0, 1) := by decide +kernel
theorem d_Glob_clear_5 : decode b_Glob_clear 5 = .ok (.invokestatic 28, 3) := by decide +kernel
theorem d_Glob_clear_8 : decode b_Glob_clear 8 = .ok (.aload_n 0, 1) := by decide +kernel
theorem d_Glob_clear_9 : decode b_Glob_clear 9 = .ok (.getfield 15, 3) := by decide +kernel
theorem d_Glob_clear_12 : decode b_Glob_clear 12 = .ok (.lconst 0, 1) := by decide +kernel
theorem d_Glob_clear_13 : decode b_Glob_clear 13 = .ok (.invokestatic 28, 3) := by decide +kernel
theorem d_Glob_clear_16 : decode b_Glob_clear 16 = .ok (.aload_n 0, 1) := by decide +kernel
theorem d_Glob_clear_17 : decode b_Glob_clear 17 = .ok (.iconst 0, 1) := by decide +kernel
theorem d_Glob_clear_18 : decode b_Glob_clear 18 = .ok (.putfield 34, 3) := by decide +kernel
theorem d_Glob_clear_21 : decode b_Glob_clear 21 = .ok (.aload_n 0, 1) := by decide +kernel
theorem d_Glob_clear_22 : decode b_Glob_clear 22 = .ok (.iconst 0, 1) := by decide +kernel
theorem d_Glob_clear_23 : decode b_Glob_clear 23 = .ok (.putfield 38, 3) := by decide +kernel
theorem d_Glob_clear_26 : decode b_Glob_clear 26 = .ok (.aload_n 0, 1) := by decide +kernel
theorem d_Glob_clear_27 : decode b_Glob_clear 27 = .ok (.lconst 1, 1) := by decide +kernel
theorem d_Glob_clear_28 : decode b_Glob_clear 28 = .ok (.putfield 41, 3) := by decide +kernel
theorem d_Glob_clear_31 : decode b_Glob_clear 31 = .ok (.return_, 1) := by decide +kernel
abbrev w_Glob_clear {cI cJ cC cZ cR : ClassId} (a_g a_gb a_gr a_ge a_go a_gc : Nat) (gg_pieceCount : Int32) (gg_depth : Int32) (gg_ends : Int64) (gg_behind : Nat → Int64) (gg_readersOf : Nat → Int64) : va_W := [(a_g, .inr (2, [.ref a_gb, .ref a_gr, .ref a_ge, .ref a_go, .ref a_gc, .int gg_pieceCount, .int gg_depth, .long gg_ends])), (a_gb, .inl (cJ, 41, .inr (.inl gg_behind))), (a_gr, .inl (cJ, 95, .inr (.inl gg_readersOf)))]
def f_Glob_clear (fu : Nat) (gg_behind : Nat → Int64) (gg_readersOf : Nat → Int64) : Option (Int32 × Int32 × Int64 × (Nat → Int64) × (Nat → Int64)) := (Option.bind (f_Arrays_fillJ fu 41 (0 : Int64) gg_behind) fun yv_fa_1 => (Option.bind (f_Arrays_fillJ fu 95 (0 : Int64) gg_readersOf) fun yv_fa_3 => some ((0 : Int32), (0 : Int32), (1 : Int64), yv_fa_1, yv_fa_3)))
set_option maxRecDepth 100000 in
set_option maxHeartbeats 4000000 in
theorem c_Glob_clear {l : Launch} {D : va_G} {cI cJ cC cZ cR : ClassId} (fu : Nat) (a_g a_gb a_gr a_ge a_go a_gc : Nat)   (gg_pieceCount : Int32) (gg_depth : Int32) (gg_ends : Int64) (gg_behind : Nat → Int64) (gg_readersOf : Nat → Int64)  (o_gg_pieceCount : Int32) (o_gg_depth : Int32) (o_gg_ends : Int64) (o_gg_behind : Nat → Int64) (o_gg_readersOf : Nat → Int64) (h : f_Glob_clear fu gg_behind gg_readersOf = some (o_gg_pieceCount, o_gg_depth, o_gg_ends, o_gg_behind, o_gg_readersOf)) : GM l D (tysL cI cJ cC cZ cR) y_Glob_clear b_Glob_clear 1 none { frames := 1, cells := 0, slots := 0, locals := 24 } [.ref a_g] (w_Glob_clear (cI := cI) (cJ := cJ) (cC := cC) (cZ := cZ) (cR := cR) a_g a_gb a_gr a_ge a_go a_gc gg_pieceCount gg_depth gg_ends gg_behind gg_readersOf) (fun (o : Option Value) (w : va_W) => o = none ∧ w = w_Glob_clear (cI := cI) (cJ := cJ) (cC := cC) (cZ := cZ) (cR := cR) a_g a_gb a_gr a_ge a_go a_gc o_gg_pieceCount o_gg_depth o_gg_ends o_gg_behind o_gg_readersOf) := by
  refine GM.of (by decide) (Nat.le_of_ble_eq_true rfl) (lv := [(0, .ref a_g)]) rfl ?_
  intro X hX C
  subst hX
  refine k_aload_n C d_Glob_clear_0 rfl 0 rfl rfl ?_
  refine k_getf C d_Glob_clear_1 hin_Glob rfl 0 (by decide) mw65 0 rfl rfl rfl ?_
  refine k_lconst C d_Glob_clear_4 (v := (0 : Int64)) (by decide) rfl ?_
  obtain ⟨yv_fa_1, hc2, h⟩ := bd h
  refine k_callSd (As := [.ref a_gb, .long (0 : Int64)]) (st := []) (st' := []) (wn := w_Glob_clear (cI := cI) (cJ := cJ) (cC := cC) (cZ := cZ) (cR := cR) a_g a_gb a_gr a_ge a_go a_gc gg_pieceCount gg_depth gg_ends yv_fa_1 gg_readersOf) C d_Glob_clear_5 (c_Arrays_fillJ fu a_gb 41 gg_behind (0 : Int64) yv_fa_1 hc2) co_Arrays_fillJ cos_Arrays_fillJ mw70 (by decide) (by decide) (Nat.le_of_ble_eq_true rfl) rfl [1] [0, 2] [0, 2, 1] rfl (by decide +kernel) rfl (by decide +kernel) (by decide +kernel) rfl (by decide +kernel) rfl rfl ?_
  refine k_aload_n C d_Glob_clear_8 rfl 0 rfl rfl ?_
  refine k_getf C d_Glob_clear_9 hin_Glob rfl 1 (by decide) mw66 0 rfl rfl rfl ?_
  refine k_lconst C d_Glob_clear_12 (v := (0 : Int64)) (by decide) rfl ?_
  obtain ⟨yv_fa_3, hc4, h⟩ := bd h
  refine k_callSd (As := [.ref a_gr, .long (0 : Int64)]) (st := []) (st' := []) (wn := w_Glob_clear (cI := cI) (cJ := cJ) (cC := cC) (cZ := cZ) (cR := cR) a_g a_gb a_gr a_ge a_go a_gc gg_pieceCount gg_depth gg_ends yv_fa_1 yv_fa_3) C d_Glob_clear_13 (c_Arrays_fillJ fu a_gr 95 gg_readersOf (0 : Int64) yv_fa_3 hc4) co_Arrays_fillJ cos_Arrays_fillJ mw70 (by decide) (by decide) (Nat.le_of_ble_eq_true rfl) rfl [2] [0, 1] [0, 1, 2] rfl (by decide +kernel) rfl (by decide +kernel) (by decide +kernel) rfl (by decide +kernel) rfl rfl ?_
  refine k_aload_n C d_Glob_clear_16 rfl 0 rfl rfl ?_
  refine k_iconst C d_Glob_clear_17 (v := (0 : Int32)) (by decide) rfl ?_
  refine k_putf (ws' := w_Glob_clear (cI := cI) (cJ := cJ) (cC := cC) (cZ := cZ) (cR := cR) a_g a_gb a_gr a_ge a_go a_gc (0 : Int32) gg_depth gg_ends yv_fa_1 yv_fa_3) C d_Glob_clear_18 hin_Glob hty_Glob hnn_Glob rfl 5 (by decide) mw67 rfl 0 rfl rfl rfl (Nat.le_of_ble_eq_true rfl) rfl rfl ?_
  refine k_aload_n C d_Glob_clear_21 rfl 0 rfl rfl ?_
  refine k_iconst C d_Glob_clear_22 (v := (0 : Int32)) (by decide) rfl ?_
  refine k_putf (ws' := w_Glob_clear (cI := cI) (cJ := cJ) (cC := cC) (cZ := cZ) (cR := cR) a_g a_gb a_gr a_ge a_go a_gc (0 : Int32) (0 : Int32) gg_ends yv_fa_1 yv_fa_3) C d_Glob_clear_23 hin_Glob hty_Glob hnn_Glob rfl 6 (by decide) mw68 rfl 0 rfl rfl rfl (Nat.le_of_ble_eq_true rfl) rfl rfl ?_
  refine k_aload_n C d_Glob_clear_26 rfl 0 rfl rfl ?_
  refine k_lconst C d_Glob_clear_27 (v := (1 : Int64)) (by decide) rfl ?_
  refine k_putf (ws' := w_Glob_clear (cI := cI) (cJ := cJ) (cC := cC) (cZ := cZ) (cR := cR) a_g a_gb a_gr a_ge a_go a_gc (0 : Int32) (0 : Int32) (1 : Int64) yv_fa_1 yv_fa_3) C d_Glob_clear_28 hin_Glob hty_Glob hnn_Glob rfl 7 (by decide) mw69 rfl 0 rfl rfl rfl (Nat.le_of_ble_eq_true rfl) rfl rfl ?_
  exact k_vret C d_Glob_clear_31 (tr1 h (fun t => (fun (o : Option Value) (w : va_W) => o = none ∧ w = w_Glob_clear (cI := cI) (cJ := cJ) (cC := cC) (cZ := cZ) (cR := cR) a_g a_gb a_gr a_ge a_go a_gc (t.1) (t.2.1) (t.2.2.1) (t.2.2.2.1) (t.2.2.2.2)) none (w_Glob_clear (cI := cI) (cJ := cJ) (cC := cC) (cZ := cZ) (cR := cR) a_g a_gb a_gr a_ge a_go a_gc (0 : Int32) (0 : Int32) (1 : Int64) yv_fa_1 yv_fa_3)) ⟨rfl, rfl⟩)
theorem d_Glob_addPiece_0 : decode b_Glob_addPiece 0 = .ok (.aload_n 0, 1) := by decide +kernel
theorem d_Glob_addPiece_1 : decode b_Glob_addPiece 1 = .ok (.getfield 34, 3) := by decide +kernel
theorem d_Glob_addPiece_4 : decode b_Glob_addPiece 4 = .ok (.iconst 1, 1) := by decide +kernel
theorem d_Glob_addPiece_5 : decode b_Glob_addPiece 5 = .ok (.iadd, 1) := by decide +kernel
theorem d_Glob_addPiece_6 : decode b_Glob_addPiece 6 = .ok (.aload_n 0, 1) := by decide +kernel
theorem d_Glob_addPiece_7 : decode b_Glob_addPiece 7 = .ok (.getfield 9, 3) := by decide +kernel
theorem d_Glob_addPiece_10 : decode b_Glob_addPiece 10 = .ok (.arraylength, 1) := by decide +kernel
theorem d_Glob_addPiece_11 : decode b_Glob_addPiece 11 = .ok (.if_icmp .lt 4, 3) := by decide +kernel
theorem d_Glob_addPiece_14 : decode b_Glob_addPiece 14 = .ok (.return_, 1) := by decide +kernel
theorem d_Glob_addPiece_15 : decode b_Glob_addPiece 15 = .ok (.aload_n 0, 1) := by decide +kernel
theorem d_Glob_addPiece_16 : decode b_Glob_addPiece 16 = .ok (.dup, 1) := by decide +kernel
theorem d_Glob_addPiece_17 : decode b_Glob_addPiece 17 = .ok (.getfield 34, 3) := by decide +kernel
theorem d_Glob_addPiece_20 : decode b_Glob_addPiece 20 = .ok (.iconst 1, 1) := by decide +kernel
theorem d_Glob_addPiece_21 : decode b_Glob_addPiece 21 = .ok (.iadd, 1) := by decide +kernel
theorem d_Glob_addPiece_22 : decode b_Glob_addPiece 22 = .ok (.putfield 34, 3) := by decide +kernel
theorem d_Glob_addPiece_25 : decode b_Glob_addPiece 25 = .ok (.lconst 1, 1) := by decide +kernel
theorem d_Glob_addPiece_26 : decode b_Glob_addPiece 26 = .ok (.aload_n 0, 1) := by decide +kernel
theorem d_Glob_addPiece_27 : decode b_Glob_addPiece 27 = .ok (.getfield 34, 3) := by decide +kernel
theorem d_Glob_addPiece_30 : decode b_Glob_addPiece 30 = .ok (.lshl, 1) := by decide +kernel
theorem d_Glob_addPiece_31 : decode b_Glob_addPiece 31 = .ok (.lstore_n 2, 1) := by decide +kernel
theorem d_Glob_addPiece_32 : decode b_Glob_addPiece 32 = .ok (.iload_n 1, 1) := by decide +kernel
theorem d_Glob_addPiece_33 : decode b_Glob_addPiece 33 = .ok (.ifCond .eq 12, 3) := by decide +kernel
theorem d_Glob_addPiece_36 : decode b_Glob_addPiece 36 = .ok (.aload_n 0, 1) := by decide +kernel
theorem d_Glob_addPiece_37 : decode b_Glob_addPiece 37 = .ok (.getfield 41, 3) := by decide +kernel
theorem d_Glob_addPiece_40 : decode b_Glob_addPiece 40 = .ok (.lload_n 2, 1) := by decide +kernel
theorem d_Glob_addPiece_41 : decode b_Glob_addPiece 41 = .ok (.lor, 1) := by decide +kernel
theorem d_Glob_addPiece_42 : decode b_Glob_addPiece 42 = .ok (.goto 7, 3) := by decide +kernel
theorem d_Glob_addPiece_45 : decode b_Glob_addPiece 45 = .ok (.aload_n 0, 1) := by decide +kernel
theorem d_Glob_addPiece_46 : decode b_Glob_addPiece 46 = .ok (.getfield 41, 3) := by decide +kernel
theorem d_Glob_addPiece_49 : decode b_Glob_addPiece 49 = .ok (.lstore 4, 2) := by decide +kernel
theorem d_Glob_addPiece_51 : decode b_Glob_addPiece 51 = .ok (.iconst 0, 1) := by decide +kernel
theorem d_Glob_addPiece_52 : decode b_Glob_addPiece 52 = .ok (.istore 6, 2) := by decide +kernel
theorem d_Glob_addPiece_54 : decode b_Glob_addPiece 54 = .ok (.iload 6, 2) := by decide +kernel
theorem d_Glob_addPiece_56 : decode b_Glob_addPiece 56 = .ok (.aload_n 0, 1) := by decide +kernel
theorem d_Glob_addPiece_57 : decode b_Glob_addPiece 57 = .ok (.getfield 34, 3) := by decide +kernel
theorem d_Glob_addPiece_60 : decode b_Glob_addPiece 60 = .ok (.if_icmp .gt 32, 3) := by decide +kernel
theorem d_Glob_addPiece_63 : decode b_Glob_addPiece 63 = .ok (.lload 4, 2) := by decide +kernel
theorem d_Glob_addPiece_65 : decode b_Glob_addPiece 65 = .ok (.iload 6, 2) := by decide +kernel
theorem d_Glob_addPiece_67 : decode b_Glob_addPiece 67 = .ok (.lushr, 1) := by decide +kernel
theorem d_Glob_addPiece_68 : decode b_Glob_addPiece 68 = .ok (.lconst 1, 1) := by decide +kernel
theorem d_Glob_addPiece_69 : decode b_Glob_addPiece 69 = .ok (.land, 1) := by decide +kernel
theorem d_Glob_addPiece_70 : decode b_Glob_addPiece 70 = .ok (.lconst 0, 1) := by decide +kernel
theorem d_Glob_addPiece_71 : decode b_Glob_addPiece 71 = .ok (.lcmp, 1) := by decide +kernel
theorem d_Glob_addPiece_72 : decode b_Glob_addPiece 72 = .ok (.ifCond .eq 14, 3) := by decide +kernel
theorem d_Glob_addPiece_75 : decode b_Glob_addPiece 75 = .ok (.aload_n 0, 1) := by decide +kernel
theorem d_Glob_addPiece_76 : decode b_Glob_addPiece 76 = .ok (.getfield 9, 3) := by decide +kernel
theorem d_Glob_addPiece_79 : decode b_Glob_addPiece 79 = .ok (.iload 6, 2) := by decide +kernel
theorem d_Glob_addPiece_81 : decode b_Glob_addPiece 81 = .ok (.dup2, 1) := by decide +kernel
theorem d_Glob_addPiece_82 : decode b_Glob_addPiece 82 = .ok (.laload, 1) := by decide +kernel
theorem d_Glob_addPiece_83 : decode b_Glob_addPiece 83 = .ok (.lload_n 2, 1) := by decide +kernel
theorem d_Glob_addPiece_84 : decode b_Glob_addPiece 84 = .ok (.lor, 1) := by decide +kernel
theorem d_Glob_addPiece_85 : decode b_Glob_addPiece 85 = .ok (.lastore, 1) := by decide +kernel
theorem d_Glob_addPiece_86 : decode b_Glob_addPiece 86 = .ok (.iinc 6 1, 3) := by decide +kernel
theorem d_Glob_addPiece_89 : decode b_Glob_addPiece 89 = .ok (.goto (-35), 3) := by decide +kernel
theorem d_Glob_addPiece_92 : decode b_Glob_addPiece 92 = .ok (.aload_n 0, 1) := by decide +kernel
theorem d_Glob_addPiece_93 : decode b_Glob_addPiece 93 = .ok (.iload_n 1, 1) := by decide +kernel
theorem d_Glob_addPiece_94 : decode b_Glob_addPiece 94 = .ok (.ifCond .eq 8, 3) := by decide +kernel
theorem d_Glob_addPiece_97 : decode b_Glob_addPiece 97 = .ok (.lload 4, 2) := by decide +kernel
theorem d_Glob_addPiece_99 : decode b_Glob_addPiece 99 = .ok (.goto 4, 3) := by decide +kernel
theorem d_Glob_addPiece_102 : decode b_Glob_addPiece 102 = .ok (.lload_n 2, 1) := by decide +kernel
theorem d_Glob_addPiece_103 : decode b_Glob_addPiece 103 = .ok (.putfield 41, 3) := by decide +kernel
theorem d_Glob_addPiece_106 : decode b_Glob_addPiece 106 = .ok (.return_, 1) := by decide +kernel
abbrev w_Glob_addPiece {cI cJ cC cZ cR : ClassId} (a_g a_gb a_gr a_ge a_go a_gc : Nat) (gg_pieceCount : Int32) (gg_depth : Int32) (gg_ends : Int64) (gg_behind : Nat → Int64) : va_W := [(a_g, .inr (2, [.ref a_gb, .ref a_gr, .ref a_ge, .ref a_go, .ref a_gc, .int gg_pieceCount, .int gg_depth, .long gg_ends])), (a_gb, .inl (cJ, 41, .inr (.inl gg_behind)))]
def f_Glob_addPiece_L54 (l2_j49 : Int64) (s0_j49 : Int64) (gg_pieceCount_j49 : Int32) (kk54_0 : Int32 → (Nat → Int64) → Option (Int32 × Int64 × (Nat → Int64))) : Nat → Int32 → (Nat → Int64) → Option (Int32 × Int64 × (Nat → Int64))
  | 0, _, _ => none
  | n_54 + 1, l6_54, gg_behind_54 => (if gg_pieceCount_j49 < l6_54 then (kk54_0 l6_54 gg_behind_54) else (if (lg_cmp ((jlushr s0_j49 l6_54) &&& (1 : Int64)) (0 : Int64)) = 0 then ((fun l6_54 gg_behind_54 => f_Glob_addPiece_L54 l2_j49 s0_j49 gg_pieceCount_j49 kk54_0 n_54 l6_54 gg_behind_54) (l6_54 + 1) gg_behind_54) else (if inB l6_54 41 = true then (if inB l6_54 41 = true then ((fun l6_54 gg_behind_54 => f_Glob_addPiece_L54 l2_j49 s0_j49 gg_pieceCount_j49 kk54_0 n_54 l6_54 gg_behind_54) (l6_54 + 1) (vp_updL gg_behind_54 l6_54.toNatClampNeg ((gg_behind_54 l6_54.toNatClampNeg) ||| l2_j49))) else none) else none)))
theorem f_Glob_addPiece_L54_s (l2_j49 : Int64) (s0_j49 : Int64) (gg_pieceCount_j49 : Int32) (kk54_0 : Int32 → (Nat → Int64) → Option (Int32 × Int64 × (Nat → Int64))) (n_54 : Nat) (l6_54 : Int32) (gg_behind_54 : Nat → Int64) : f_Glob_addPiece_L54 l2_j49 s0_j49 gg_pieceCount_j49 kk54_0 (n_54 + 1) l6_54 gg_behind_54 = (if gg_pieceCount_j49 < l6_54 then (kk54_0 l6_54 gg_behind_54) else (if (lg_cmp ((jlushr s0_j49 l6_54) &&& (1 : Int64)) (0 : Int64)) = 0 then ((fun l6_54 gg_behind_54 => f_Glob_addPiece_L54 l2_j49 s0_j49 gg_pieceCount_j49 kk54_0 n_54 l6_54 gg_behind_54) (l6_54 + 1) gg_behind_54) else (if inB l6_54 41 = true then (if inB l6_54 41 = true then ((fun l6_54 gg_behind_54 => f_Glob_addPiece_L54 l2_j49 s0_j49 gg_pieceCount_j49 kk54_0 n_54 l6_54 gg_behind_54) (l6_54 + 1) (vp_updL gg_behind_54 l6_54.toNatClampNeg ((gg_behind_54 l6_54.toNatClampNeg) ||| l2_j49))) else none) else none))) := rfl
def f_Glob_addPiece_J49 (p1 : Int32) (fu : Nat) (l2_j49 : Int64) (s0_j49 : Int64) (gg_pieceCount_j49 : Int32) (gg_behind_j49 : Nat → Int64) : Option (Int32 × Int64 × (Nat → Int64)) := (f_Glob_addPiece_L54 l2_j49 s0_j49 gg_pieceCount_j49 (fun l6_54 gg_behind_54 => (if p1 = 0 then some (gg_pieceCount_j49, l2_j49, gg_behind_54) else some (gg_pieceCount_j49, s0_j49, gg_behind_54))) fu (0 : Int32) gg_behind_j49)
def f_Glob_addPiece (fu : Nat) (p1 : Int32) (gg_pieceCount : Int32) (gg_ends : Int64) (gg_behind : Nat → Int64) : Option (Int32 × Int64 × (Nat → Int64)) := (if (gg_pieceCount + (1 : Int32)) < (41 : Int32) then (if p1 = 0 then (f_Glob_addPiece_J49 p1 fu (jlshl (1 : Int64) (gg_pieceCount + (1 : Int32))) gg_ends (gg_pieceCount + (1 : Int32)) gg_behind) else (f_Glob_addPiece_J49 p1 fu (jlshl (1 : Int64) (gg_pieceCount + (1 : Int32))) (gg_ends ||| (jlshl (1 : Int64) (gg_pieceCount + (1 : Int32)))) (gg_pieceCount + (1 : Int32)) gg_behind)) else some (gg_pieceCount, gg_ends, gg_behind))
set_option maxRecDepth 100000 in
set_option maxHeartbeats 4000000 in
theorem c_Glob_addPiece {l : Launch} {D : va_G} {cI cJ cC cZ cR : ClassId} (fu : Nat) (a_g a_gb a_gr a_ge a_go a_gc : Nat)   (gg_pieceCount : Int32) (gg_depth : Int32) (gg_ends : Int64) (gg_behind : Nat → Int64) (p1 : Int32) (o_gg_pieceCount : Int32) (o_gg_ends : Int64) (o_gg_behind : Nat → Int64) (h : f_Glob_addPiece fu p1 gg_pieceCount gg_ends gg_behind = some (o_gg_pieceCount, o_gg_ends, o_gg_behind)) : GM l D (tysL cI cJ cC cZ cR) y_Glob_addPiece b_Glob_addPiece 7 none { frames := 0, cells := 0, slots := 0, locals := 0 } [.ref a_g, .int p1] (w_Glob_addPiece (cI := cI) (cJ := cJ) (cC := cC) (cZ := cZ) (cR := cR) a_g a_gb a_gr a_ge a_go a_gc gg_pieceCount gg_depth gg_ends gg_behind) (fun (o : Option Value) (w : va_W) => o = none ∧ w = w_Glob_addPiece (cI := cI) (cJ := cJ) (cC := cC) (cZ := cZ) (cR := cR) a_g a_gb a_gr a_ge a_go a_gc o_gg_pieceCount gg_depth o_gg_ends o_gg_behind) := by
  refine GM.of (by decide) (Nat.le_of_ble_eq_true rfl) (lv := [(0, .ref a_g), (1, .int p1)]) rfl ?_
  intro X hX C
  subst hX
  have J49 : ∀ (l2_j49 : Int64) (s0_j49 : Int64) (gg_pieceCount_j49 : Int32) (gg_ends_j49 : Int64) (gg_behind_j49 : Nat → Int64), f_Glob_addPiece_J49 p1 fu l2_j49 s0_j49 gg_pieceCount_j49 gg_behind_j49 = some (o_gg_pieceCount, o_gg_ends, o_gg_behind) → Wk X { frames := 0, cells := 0, slots := 0, locals := 0 } 7 D (va_A (w_Glob_addPiece (cI := cI) (cJ := cJ) (cC := cC) (cZ := cZ) (cR := cR) a_g a_gb a_gr a_ge a_go a_gc gg_pieceCount gg_depth gg_ends gg_behind) (xs X).heap.size) 0 0 (GE X D (w_Glob_addPiece (cI := cI) (cJ := cJ) (cC := cC) (cZ := cZ) (cR := cR) a_g a_gb a_gr a_ge a_go a_gc gg_pieceCount gg_depth gg_ends gg_behind) (fun (o : Option Value) (w : va_W) => o = none ∧ w = w_Glob_addPiece (cI := cI) (cJ := cJ) (cC := cC) (cZ := cZ) (cR := cR) a_g a_gb a_gr a_ge a_go a_gc o_gg_pieceCount gg_depth o_gg_ends o_gg_behind) 0 0) (w_Glob_addPiece (cI := cI) (cJ := cJ) (cC := cC) (cZ := cZ) (cR := cR) a_g a_gb a_gr a_ge a_go a_gc gg_pieceCount_j49 gg_depth gg_ends_j49 gg_behind_j49) [(2, .long l2_j49), (0, .ref a_g), (1, .int p1)] [.long s0_j49] 49 := by
    intro l2_j49 s0_j49 gg_pieceCount_j49 gg_ends_j49 gg_behind_j49 h
    refine k_lstore (lv' := [(4, .long s0_j49), (2, .long l2_j49), (0, .ref a_g), (1, .int p1)]) C d_Glob_addPiece_49 (by decide) rfl rfl ?_
    refine k_iconst C d_Glob_addPiece_51 (v := (0 : Int32)) (by decide) rfl ?_
    refine k_istore (lv' := [(6, .int (0 : Int32)), (4, .long s0_j49), (2, .long l2_j49), (0, .ref a_g), (1, .int p1)]) C d_Glob_addPiece_52 (by decide) rfl rfl ?_
    have X54_0 : ∀ (l6_54 : Int32) (gg_behind_54 : Nat → Int64), (if p1 = 0 then some (gg_pieceCount_j49, l2_j49, gg_behind_54) else some (gg_pieceCount_j49, s0_j49, gg_behind_54)) = some (o_gg_pieceCount, o_gg_ends, o_gg_behind) → Wk X { frames := 0, cells := 0, slots := 0, locals := 0 } 7 D (va_A (w_Glob_addPiece (cI := cI) (cJ := cJ) (cC := cC) (cZ := cZ) (cR := cR) a_g a_gb a_gr a_ge a_go a_gc gg_pieceCount gg_depth gg_ends gg_behind) (xs X).heap.size) 0 0 (GE X D (w_Glob_addPiece (cI := cI) (cJ := cJ) (cC := cC) (cZ := cZ) (cR := cR) a_g a_gb a_gr a_ge a_go a_gc gg_pieceCount gg_depth gg_ends gg_behind) (fun (o : Option Value) (w : va_W) => o = none ∧ w = w_Glob_addPiece (cI := cI) (cJ := cJ) (cC := cC) (cZ := cZ) (cR := cR) a_g a_gb a_gr a_ge a_go a_gc o_gg_pieceCount gg_depth o_gg_ends o_gg_behind) 0 0) (w_Glob_addPiece (cI := cI) (cJ := cJ) (cC := cC) (cZ := cZ) (cR := cR) a_g a_gb a_gr a_ge a_go a_gc gg_pieceCount_j49 gg_depth gg_ends_j49 gg_behind_54) [(6, .int l6_54), (4, .long s0_j49), (2, .long l2_j49), (0, .ref a_g), (1, .int p1)] [] 92 := by
      intro l6_54 gg_behind_54 h
      refine k_aload_n C d_Glob_addPiece_92 rfl 3 rfl rfl ?_
      refine k_iload_n C d_Glob_addPiece_93 rfl 4 rfl rfl ?_
      refine k_if_eq (tgt := 102) C d_Glob_addPiece_94 (by decide) rfl (fun c5 => ?_) (fun c5 => ?_)
      · replace h := gi_t h c5
        refine k_lload_n C d_Glob_addPiece_102 rfl 2 rfl rfl ?_
        refine k_putf (ws' := w_Glob_addPiece (cI := cI) (cJ := cJ) (cC := cC) (cZ := cZ) (cR := cR) a_g a_gb a_gr a_ge a_go a_gc gg_pieceCount_j49 gg_depth l2_j49 gg_behind_54) C d_Glob_addPiece_103 hin_Glob hty_Glob hnn_Glob rfl 7 (by decide) mw69 rfl 0 rfl rfl rfl (Nat.le_of_ble_eq_true rfl) rfl rfl ?_
        exact k_vret C d_Glob_addPiece_106 (tr1 h (fun t => (fun (o : Option Value) (w : va_W) => o = none ∧ w = w_Glob_addPiece (cI := cI) (cJ := cJ) (cC := cC) (cZ := cZ) (cR := cR) a_g a_gb a_gr a_ge a_go a_gc (t.1) gg_depth (t.2.1) (t.2.2)) none (w_Glob_addPiece (cI := cI) (cJ := cJ) (cC := cC) (cZ := cZ) (cR := cR) a_g a_gb a_gr a_ge a_go a_gc gg_pieceCount_j49 gg_depth l2_j49 gg_behind_54)) ⟨rfl, rfl⟩)
      · replace h := gi_f h c5
        refine k_lload C d_Glob_addPiece_97 1 rfl rfl ?_
        refine k_goto (tgt := 103) C d_Glob_addPiece_99 (by decide) ?_
        refine k_putf (ws' := w_Glob_addPiece (cI := cI) (cJ := cJ) (cC := cC) (cZ := cZ) (cR := cR) a_g a_gb a_gr a_ge a_go a_gc gg_pieceCount_j49 gg_depth s0_j49 gg_behind_54) C d_Glob_addPiece_103 hin_Glob hty_Glob hnn_Glob rfl 7 (by decide) mw69 rfl 0 rfl rfl rfl (Nat.le_of_ble_eq_true rfl) rfl rfl ?_
        exact k_vret C d_Glob_addPiece_106 (tr1 h (fun t => (fun (o : Option Value) (w : va_W) => o = none ∧ w = w_Glob_addPiece (cI := cI) (cJ := cJ) (cC := cC) (cZ := cZ) (cR := cR) a_g a_gb a_gr a_ge a_go a_gc (t.1) gg_depth (t.2.1) (t.2.2)) none (w_Glob_addPiece (cI := cI) (cJ := cJ) (cC := cC) (cZ := cZ) (cR := cR) a_g a_gb a_gr a_ge a_go a_gc gg_pieceCount_j49 gg_depth s0_j49 gg_behind_54)) ⟨rfl, rfl⟩)
    have L54 : ∀ (kk54_0 : Int32 → (Nat → Int64) → Option (Int32 × Int64 × (Nat → Int64))) (hX54_0 : ∀ (l6_54 : Int32) (gg_behind_54 : Nat → Int64), kk54_0 l6_54 gg_behind_54 = some (o_gg_pieceCount, o_gg_ends, o_gg_behind) → Wk X { frames := 0, cells := 0, slots := 0, locals := 0 } 7 D (va_A (w_Glob_addPiece (cI := cI) (cJ := cJ) (cC := cC) (cZ := cZ) (cR := cR) a_g a_gb a_gr a_ge a_go a_gc gg_pieceCount gg_depth gg_ends gg_behind) (xs X).heap.size) 0 0 (GE X D (w_Glob_addPiece (cI := cI) (cJ := cJ) (cC := cC) (cZ := cZ) (cR := cR) a_g a_gb a_gr a_ge a_go a_gc gg_pieceCount gg_depth gg_ends gg_behind) (fun (o : Option Value) (w : va_W) => o = none ∧ w = w_Glob_addPiece (cI := cI) (cJ := cJ) (cC := cC) (cZ := cZ) (cR := cR) a_g a_gb a_gr a_ge a_go a_gc o_gg_pieceCount gg_depth o_gg_ends o_gg_behind) 0 0) (w_Glob_addPiece (cI := cI) (cJ := cJ) (cC := cC) (cZ := cZ) (cR := cR) a_g a_gb a_gr a_ge a_go a_gc gg_pieceCount_j49 gg_depth gg_ends_j49 gg_behind_54) [(6, .int l6_54), (4, .long s0_j49), (2, .long l2_j49), (0, .ref a_g), (1, .int p1)] [] 92) (n_54 : Nat) (l6_54 : Int32) (gg_behind_54 : Nat → Int64), f_Glob_addPiece_L54 l2_j49 s0_j49 gg_pieceCount_j49 kk54_0 n_54 l6_54 gg_behind_54 = some (o_gg_pieceCount, o_gg_ends, o_gg_behind) → Wk X { frames := 0, cells := 0, slots := 0, locals := 0 } 7 D (va_A (w_Glob_addPiece (cI := cI) (cJ := cJ) (cC := cC) (cZ := cZ) (cR := cR) a_g a_gb a_gr a_ge a_go a_gc gg_pieceCount gg_depth gg_ends gg_behind) (xs X).heap.size) 0 0 (GE X D (w_Glob_addPiece (cI := cI) (cJ := cJ) (cC := cC) (cZ := cZ) (cR := cR) a_g a_gb a_gr a_ge a_go a_gc gg_pieceCount gg_depth gg_ends gg_behind) (fun (o : Option Value) (w : va_W) => o = none ∧ w = w_Glob_addPiece (cI := cI) (cJ := cJ) (cC := cC) (cZ := cZ) (cR := cR) a_g a_gb a_gr a_ge a_go a_gc o_gg_pieceCount gg_depth o_gg_ends o_gg_behind) 0 0) (w_Glob_addPiece (cI := cI) (cJ := cJ) (cC := cC) (cZ := cZ) (cR := cR) a_g a_gb a_gr a_ge a_go a_gc gg_pieceCount_j49 gg_depth gg_ends_j49 gg_behind_54) [(6, .int l6_54), (4, .long s0_j49), (2, .long l2_j49), (0, .ref a_g), (1, .int p1)] [] 54 := by
      intro kk54_0 hX54_0 n_54
      induction n_54 with
      | zero =>
        intro l6_54 gg_behind_54 h
        exact nS h
      | succ n_54 ih54 =>
        intro l6_54 gg_behind_54 h
        replace h := (f_Glob_addPiece_L54_s _ _ _ _ _ _ _).symm.trans h
        refine k_iload C d_Glob_addPiece_54 0 rfl rfl ?_
        refine k_aload_n C d_Glob_addPiece_56 rfl 3 rfl rfl ?_
        refine k_getf C d_Glob_addPiece_57 hin_Glob rfl 5 (by decide) mw67 0 rfl rfl rfl ?_
        refine k_icmp_gt (tgt := 92) C d_Glob_addPiece_60 (by decide) rfl (fun c1 => ?_) (fun c1 => ?_)
        · replace h := gi_t h c1
          exact hX54_0 l6_54 gg_behind_54 h
        · replace h := gi_f h c1
          refine k_lload C d_Glob_addPiece_63 1 rfl rfl ?_
          refine k_iload C d_Glob_addPiece_65 0 rfl rfl ?_
          refine k_lushr C d_Glob_addPiece_67 rfl ?_
          refine k_lconst C d_Glob_addPiece_68 (v := (1 : Int64)) (by decide) rfl ?_
          refine k_land C d_Glob_addPiece_69 rfl ?_
          refine k_lconst C d_Glob_addPiece_70 (v := (0 : Int64)) (by decide) rfl ?_
          refine k_lcmp C d_Glob_addPiece_71 rfl ?_
          refine k_if_eq (tgt := 86) C d_Glob_addPiece_72 (by decide) rfl (fun c2 => ?_) (fun c2 => ?_)
          · replace h := gi_t h c2
            refine k_iinc (lv' := [(6, .int (l6_54 + 1)), (4, .long s0_j49), (2, .long l2_j49), (0, .ref a_g), (1, .int p1)]) C d_Glob_addPiece_86 0 rfl rfl (by decide) rfl rfl ?_
            refine k_goto (tgt := 54) C d_Glob_addPiece_89 (by decide) ?_
            exact ih54 (l6_54 + 1) gg_behind_54 h
          · replace h := gi_f h c2
            refine k_aload_n C d_Glob_addPiece_75 rfl 3 rfl rfl ?_
            refine k_getf C d_Glob_addPiece_76 hin_Glob rfl 0 (by decide) mw65 0 rfl rfl rfl ?_
            refine k_iload C d_Glob_addPiece_79 0 rfl rfl ?_
            refine k_dup2_11 C d_Glob_addPiece_81 rfl rfl rfl ?_
            have g3 := gd1 h
            replace h := gd2 h
            refine k_lald C d_Glob_addPiece_82 1 1 rfl rfl (inB_in g3) rfl ?_
            refine k_lload_n C d_Glob_addPiece_83 rfl 2 rfl rfl ?_
            refine k_lor C d_Glob_addPiece_84 rfl ?_
            have g4 := gd1 h
            replace h := gd2 h
            refine k_last (ws' := w_Glob_addPiece (cI := cI) (cJ := cJ) (cC := cC) (cZ := cZ) (cR := cR) a_g a_gb a_gr a_ge a_go a_gc gg_pieceCount_j49 gg_depth gg_ends_j49 (vp_updL gg_behind_54 l6_54.toNatClampNeg ((gg_behind_54 l6_54.toNatClampNeg) ||| l2_j49))) C d_Glob_addPiece_85 1 1 rfl rfl (inB_in g4) rfl rfl ?_
            refine k_iinc (lv' := [(6, .int (l6_54 + 1)), (4, .long s0_j49), (2, .long l2_j49), (0, .ref a_g), (1, .int p1)]) C d_Glob_addPiece_86 0 rfl rfl (by decide) rfl rfl ?_
            refine k_goto (tgt := 54) C d_Glob_addPiece_89 (by decide) ?_
            exact ih54 (l6_54 + 1) (vp_updL gg_behind_54 l6_54.toNatClampNeg ((gg_behind_54 l6_54.toNatClampNeg) ||| l2_j49)) h
    exact L54 (fun l6_54 gg_behind_54 => (if p1 = 0 then some (gg_pieceCount_j49, l2_j49, gg_behind_54) else some (gg_pieceCount_j49, s0_j49, gg_behind_54))) X54_0 fu (0 : Int32) gg_behind_j49 h
  refine k_aload_n C d_Glob_addPiece_0 rfl 0 rfl rfl ?_
  refine k_getf C d_Glob_addPiece_1 hin_Glob rfl 5 (by decide) mw67 0 rfl rfl rfl ?_
  refine k_iconst C d_Glob_addPiece_4 (v := (1 : Int32)) (by decide) rfl ?_
  refine k_iadd C d_Glob_addPiece_5 rfl ?_
  refine k_aload_n C d_Glob_addPiece_6 rfl 0 rfl rfl ?_
  refine k_getf C d_Glob_addPiece_7 hin_Glob rfl 0 (by decide) mw65 0 rfl rfl rfl ?_
  refine k_alen (z := (41 : Int32)) C d_Glob_addPiece_10 1 1 rfl rfl rfl rfl ?_
  refine k_icmp_lt (tgt := 15) C d_Glob_addPiece_11 (by decide) rfl (fun c6 => ?_) (fun c6 => ?_)
  · replace h := gi_t h c6
    refine k_aload_n C d_Glob_addPiece_15 rfl 0 rfl rfl ?_
    refine k_dup C d_Glob_addPiece_16 rfl rfl ?_
    refine k_getf C d_Glob_addPiece_17 hin_Glob rfl 5 (by decide) mw67 0 rfl rfl rfl ?_
    refine k_iconst C d_Glob_addPiece_20 (v := (1 : Int32)) (by decide) rfl ?_
    refine k_iadd C d_Glob_addPiece_21 rfl ?_
    refine k_putf (ws' := w_Glob_addPiece (cI := cI) (cJ := cJ) (cC := cC) (cZ := cZ) (cR := cR) a_g a_gb a_gr a_ge a_go a_gc (gg_pieceCount + (1 : Int32)) gg_depth gg_ends gg_behind) C d_Glob_addPiece_22 hin_Glob hty_Glob hnn_Glob rfl 5 (by decide) mw67 rfl 0 rfl rfl rfl (Nat.le_of_ble_eq_true rfl) rfl rfl ?_
    refine k_lconst C d_Glob_addPiece_25 (v := (1 : Int64)) (by decide) rfl ?_
    refine k_aload_n C d_Glob_addPiece_26 rfl 0 rfl rfl ?_
    refine k_getf C d_Glob_addPiece_27 hin_Glob rfl 5 (by decide) mw67 0 rfl rfl rfl ?_
    refine k_lshl C d_Glob_addPiece_30 rfl ?_
    refine k_lstore_n (lv' := [(2, .long (jlshl (1 : Int64) (gg_pieceCount + (1 : Int32)))), (0, .ref a_g), (1, .int p1)]) C d_Glob_addPiece_31 rfl (by decide) rfl rfl ?_
    refine k_iload_n C d_Glob_addPiece_32 rfl 2 rfl rfl ?_
    refine k_if_eq (tgt := 45) C d_Glob_addPiece_33 (by decide) rfl (fun c7 => ?_) (fun c7 => ?_)
    · replace h := gi_t h c7
      refine k_aload_n C d_Glob_addPiece_45 rfl 1 rfl rfl ?_
      refine k_getf C d_Glob_addPiece_46 hin_Glob rfl 7 (by decide) mw69 0 rfl rfl rfl ?_
      exact J49 (jlshl (1 : Int64) (gg_pieceCount + (1 : Int32))) gg_ends (gg_pieceCount + (1 : Int32)) gg_ends gg_behind h
    · replace h := gi_f h c7
      refine k_aload_n C d_Glob_addPiece_36 rfl 1 rfl rfl ?_
      refine k_getf C d_Glob_addPiece_37 hin_Glob rfl 7 (by decide) mw69 0 rfl rfl rfl ?_
      refine k_lload_n C d_Glob_addPiece_40 rfl 0 rfl rfl ?_
      refine k_lor C d_Glob_addPiece_41 rfl ?_
      refine k_goto (tgt := 49) C d_Glob_addPiece_42 (by decide) ?_
      exact J49 (jlshl (1 : Int64) (gg_pieceCount + (1 : Int32))) (gg_ends ||| (jlshl (1 : Int64) (gg_pieceCount + (1 : Int32)))) (gg_pieceCount + (1 : Int32)) gg_ends gg_behind h
  · replace h := gi_f h c6
    exact k_vret C d_Glob_addPiece_14 (tr1 h (fun t => (fun (o : Option Value) (w : va_W) => o = none ∧ w = w_Glob_addPiece (cI := cI) (cJ := cJ) (cC := cC) (cZ := cZ) (cR := cR) a_g a_gb a_gr a_ge a_go a_gc (t.1) gg_depth (t.2.1) (t.2.2)) none (w_Glob_addPiece (cI := cI) (cJ := cJ) (cC := cC) (cZ := cZ) (cR := cR) a_g a_gb a_gr a_ge a_go a_gc gg_pieceCount gg_depth gg_ends gg_behind)) ⟨rfl, rfl⟩)
theorem d_Glob_setReads_0 : decode b_Glob_setReads 0 = .ok (.lconst 1, 1) := by decide +kernel
theorem d_Glob_setReads_1 : decode b_Glob_setReads 1 = .ok (.aload_n 0, 1) := by decide +kernel
theorem d_Glob_setReads_2 : decode b_Glob_setReads 2 = .ok (.getfield 34, 3) := by decide +kernel
theorem d_Glob_setReads_5 : decode b_Glob_setReads 5 = .ok (.lshl, 1) := by decide +kernel
theorem d_Glob_setReads_6 : decode b_Glob_setReads 6 = .ok (.lstore 4, 2) := by decide +kernel
theorem d_Glob_setReads_8 : decode b_Glob_setReads 8 = .ok (.iload_n 1, 1) := by decide +kernel
theorem d_Glob_setReads_9 : decode b_Glob_setReads 9 = .ok (.istore 6, 2) := by decide +kernel
theorem d_Glob_setReads_11 : decode b_Glob_setReads 11 = .ok (.iload 6, 2) := by decide +kernel
theorem d_Glob_setReads_13 : decode b_Glob_setReads 13 = .ok (.ifCond .lt 63, 3) := by decide +kernel
theorem d_Glob_setReads_16 : decode b_Glob_setReads 16 = .ok (.iload 6, 2) := by decide +kernel
theorem d_Glob_setReads_18 : decode b_Glob_setReads 18 = .ok (.iload_n 2, 1) := by decide +kernel
theorem d_Glob_setReads_19 : decode b_Glob_setReads 19 = .ok (.if_icmp .gt 57, 3) := by decide +kernel
theorem d_Glob_setReads_22 : decode b_Glob_setReads 22 = .ok (.iload 6, 2) := by decide +kernel
theorem d_Glob_setReads_24 : decode b_Glob_setReads 24 = .ok (.aload_n 0, 1) := by decide +kernel
theorem d_Glob_setReads_25 : decode b_Glob_setReads 25 = .ok (.getfield 15, 3) := by decide +kernel
theorem d_Glob_setReads_28 : decode b_Glob_setReads 28 = .ok (.arraylength, 1) := by decide +kernel
theorem d_Glob_setReads_29 : decode b_Glob_setReads 29 = .ok (.if_icmp .ge 47, 3) := by decide +kernel
theorem d_Glob_setReads_32 : decode b_Glob_setReads 32 = .ok (.aload_n 0, 1) := by decide +kernel
theorem d_Glob_setReads_33 : decode b_Glob_setReads 33 = .ok (.getfield 15, 3) := by decide +kernel
theorem d_Glob_setReads_36 : decode b_Glob_setReads 36 = .ok (.iload 6, 2) := by decide +kernel
theorem d_Glob_setReads_38 : decode b_Glob_setReads 38 = .ok (.iload_n 3, 1) := by decide +kernel
theorem d_Glob_setReads_39 : decode b_Glob_setReads 39 = .ok (.ifCond .eq 16, 3) := by decide +kernel
theorem d_Glob_setReads_42 : decode b_Glob_setReads 42 = .ok (.aload_n 0, 1) := by decide +kernel
theorem d_Glob_setReads_43 : decode b_Glob_setReads 43 = .ok (.getfield 15, 3) := by decide +kernel
theorem d_Glob_setReads_46 : decode b_Glob_setReads 46 = .ok (.iload 6, 2) := by decide +kernel
theorem d_Glob_setReads_48 : decode b_Glob_setReads 48 = .ok (.laload, 1) := by decide +kernel
theorem d_Glob_setReads_49 : decode b_Glob_setReads 49 = .ok (.lload 4, 2) := by decide +kernel
theorem d_Glob_setReads_51 : decode b_Glob_setReads 51 = .ok (.lor, 1) := by decide +kernel
theorem d_Glob_setReads_52 : decode b_Glob_setReads 52 = .ok (.goto 17, 3) := by decide +kernel
theorem d_Glob_setReads_55 : decode b_Glob_setReads 55 = .ok (.aload_n 0, 1) := by decide +kernel
theorem d_Glob_setReads_56 : decode b_Glob_setReads 56 = .ok (.getfield 15, 3) := by decide +kernel
theorem d_Glob_setReads_59 : decode b_Glob_setReads 59 = .ok (.iload 6, 2) := by decide +kernel
theorem d_Glob_setReads_61 : decode b_Glob_setReads 61 = .ok (.laload, 1) := by decide +kernel
theorem d_Glob_setReads_62 : decode b_Glob_setReads 62 = .ok (.lload 4, 2) := by decide +kernel
theorem d_Glob_setReads_64 : decode b_Glob_setReads 64 = .ok (.ldc2_w 51, 3) := by decide +kernel
theorem d_Glob_setReads_67 : decode b_Glob_setReads 67 = .ok (.lxor, 1) := by decide +kernel
theorem d_Glob_setReads_68 : decode b_Glob_setReads 68 = .ok (.land, 1) := by decide +kernel
theorem d_Glob_setReads_69 : decode b_Glob_setReads 69 = .ok (.lastore, 1) := by decide +kernel
theorem d_Glob_setReads_70 : decode b_Glob_setReads 70 = .ok (.iinc 6 1, 3) := by decide +kernel
theorem d_Glob_setReads_73 : decode b_Glob_setReads 73 = .ok (.goto (-62), 3) := by decide +kernel
theorem d_Glob_setReads_76 : decode b_Glob_setReads 76 = .ok (.return_, 1) := by decide +kernel
abbrev w_Glob_setReads {cI cJ cC cZ cR : ClassId} (a_g a_gb a_gr a_ge a_go a_gc : Nat) (gg_pieceCount : Int32) (gg_depth : Int32) (gg_ends : Int64) (gg_readersOf : Nat → Int64) : va_W := [(a_g, .inr (2, [.ref a_gb, .ref a_gr, .ref a_ge, .ref a_go, .ref a_gc, .int gg_pieceCount, .int gg_depth, .long gg_ends])), (a_gr, .inl (cJ, 95, .inr (.inl gg_readersOf)))]
def f_Glob_setReads_L11 (gg_pieceCount : Int32) (p2 : Int32) (p3 : Int32) (kk11_0 : Int32 → (Nat → Int64) → Option ((Nat → Int64))) : Nat → Int32 → (Nat → Int64) → Option ((Nat → Int64))
  | 0, _, _ => none
  | n_11 + 1, l6_11, gg_readersOf_11 => (if l6_11 < 0 then (kk11_0 l6_11 gg_readersOf_11) else (if p2 < l6_11 then (kk11_0 l6_11 gg_readersOf_11) else (if (95 : Int32) ≤ l6_11 then (kk11_0 l6_11 gg_readersOf_11) else (if p3 = 0 then (if inB l6_11 95 = true then (if inB l6_11 95 = true then (f_Glob_setReads_L11 gg_pieceCount p2 p3 kk11_0 n_11 (l6_11 + 1) (vp_updL gg_readersOf_11 l6_11.toNatClampNeg ((gg_readersOf_11 l6_11.toNatClampNeg) &&& ((jlshl (1 : Int64) gg_pieceCount) ^^^ (-1 : Int64))))) else none) else none) else (if inB l6_11 95 = true then (if inB l6_11 95 = true then (f_Glob_setReads_L11 gg_pieceCount p2 p3 kk11_0 n_11 (l6_11 + 1) (vp_updL gg_readersOf_11 l6_11.toNatClampNeg ((gg_readersOf_11 l6_11.toNatClampNeg) ||| (jlshl (1 : Int64) gg_pieceCount)))) else none) else none)))))
theorem f_Glob_setReads_L11_s (gg_pieceCount : Int32) (p2 : Int32) (p3 : Int32) (kk11_0 : Int32 → (Nat → Int64) → Option ((Nat → Int64))) (n_11 : Nat) (l6_11 : Int32) (gg_readersOf_11 : Nat → Int64) : f_Glob_setReads_L11 gg_pieceCount p2 p3 kk11_0 (n_11 + 1) l6_11 gg_readersOf_11 = (if l6_11 < 0 then (kk11_0 l6_11 gg_readersOf_11) else (if p2 < l6_11 then (kk11_0 l6_11 gg_readersOf_11) else (if (95 : Int32) ≤ l6_11 then (kk11_0 l6_11 gg_readersOf_11) else (if p3 = 0 then (if inB l6_11 95 = true then (if inB l6_11 95 = true then (f_Glob_setReads_L11 gg_pieceCount p2 p3 kk11_0 n_11 (l6_11 + 1) (vp_updL gg_readersOf_11 l6_11.toNatClampNeg ((gg_readersOf_11 l6_11.toNatClampNeg) &&& ((jlshl (1 : Int64) gg_pieceCount) ^^^ (-1 : Int64))))) else none) else none) else (if inB l6_11 95 = true then (if inB l6_11 95 = true then (f_Glob_setReads_L11 gg_pieceCount p2 p3 kk11_0 n_11 (l6_11 + 1) (vp_updL gg_readersOf_11 l6_11.toNatClampNeg ((gg_readersOf_11 l6_11.toNatClampNeg) ||| (jlshl (1 : Int64) gg_pieceCount)))) else none) else none))))) := rfl
def f_Glob_setReads (fu : Nat) (p1 : Int32) (p2 : Int32) (p3 : Int32) (gg_pieceCount : Int32) (gg_readersOf : Nat → Int64) : Option ((Nat → Int64)) := (f_Glob_setReads_L11 gg_pieceCount p2 p3 (fun l6_11 gg_readersOf_11 => some gg_readersOf_11) fu p1 gg_readersOf)
set_option maxRecDepth 100000 in
set_option maxHeartbeats 4000000 in
theorem c_Glob_setReads {l : Launch} {D : va_G} {cI cJ cC cZ cR : ClassId} (fu : Nat) (a_g a_gb a_gr a_ge a_go a_gc : Nat)   (gg_pieceCount : Int32) (gg_depth : Int32) (gg_ends : Int64) (gg_readersOf : Nat → Int64) (p1 : Int32) (p2 : Int32) (p3 : Int32) (o_gg_readersOf : Nat → Int64) (h : f_Glob_setReads fu p1 p2 p3 gg_pieceCount gg_readersOf = some o_gg_readersOf) : GM l D (tysL cI cJ cC cZ cR) y_Glob_setReads b_Glob_setReads 7 none { frames := 0, cells := 0, slots := 0, locals := 0 } [.ref a_g, .int p1, .int p2, .int p3] (w_Glob_setReads (cI := cI) (cJ := cJ) (cC := cC) (cZ := cZ) (cR := cR) a_g a_gb a_gr a_ge a_go a_gc gg_pieceCount gg_depth gg_ends gg_readersOf) (fun (o : Option Value) (w : va_W) => o = none ∧ w = w_Glob_setReads (cI := cI) (cJ := cJ) (cC := cC) (cZ := cZ) (cR := cR) a_g a_gb a_gr a_ge a_go a_gc gg_pieceCount gg_depth gg_ends o_gg_readersOf) := by
  refine GM.of (by decide) (Nat.le_of_ble_eq_true rfl) (lv := [(0, .ref a_g), (1, .int p1), (2, .int p2), (3, .int p3)]) rfl ?_
  intro X hX C
  subst hX
  refine k_lconst C d_Glob_setReads_0 (v := (1 : Int64)) (by decide) rfl ?_
  refine k_aload_n C d_Glob_setReads_1 rfl 0 rfl rfl ?_
  refine k_getf C d_Glob_setReads_2 hin_Glob rfl 5 (by decide) mw67 0 rfl rfl rfl ?_
  refine k_lshl C d_Glob_setReads_5 rfl ?_
  refine k_lstore (lv' := [(4, .long (jlshl (1 : Int64) gg_pieceCount)), (0, .ref a_g), (1, .int p1), (2, .int p2), (3, .int p3)]) C d_Glob_setReads_6 (by decide) rfl rfl ?_
  refine k_iload_n C d_Glob_setReads_8 rfl 2 rfl rfl ?_
  refine k_istore (lv' := [(6, .int p1), (4, .long (jlshl (1 : Int64) gg_pieceCount)), (0, .ref a_g), (1, .int p1), (2, .int p2), (3, .int p3)]) C d_Glob_setReads_9 (by decide) rfl rfl ?_
  have X11_0 : ∀ (l6_11 : Int32) (gg_readersOf_11 : Nat → Int64), some gg_readersOf_11 = some o_gg_readersOf → Wk X { frames := 0, cells := 0, slots := 0, locals := 0 } 7 D (va_A (w_Glob_setReads (cI := cI) (cJ := cJ) (cC := cC) (cZ := cZ) (cR := cR) a_g a_gb a_gr a_ge a_go a_gc gg_pieceCount gg_depth gg_ends gg_readersOf) (xs X).heap.size) 0 0 (GE X D (w_Glob_setReads (cI := cI) (cJ := cJ) (cC := cC) (cZ := cZ) (cR := cR) a_g a_gb a_gr a_ge a_go a_gc gg_pieceCount gg_depth gg_ends gg_readersOf) (fun (o : Option Value) (w : va_W) => o = none ∧ w = w_Glob_setReads (cI := cI) (cJ := cJ) (cC := cC) (cZ := cZ) (cR := cR) a_g a_gb a_gr a_ge a_go a_gc gg_pieceCount gg_depth gg_ends o_gg_readersOf) 0 0) (w_Glob_setReads (cI := cI) (cJ := cJ) (cC := cC) (cZ := cZ) (cR := cR) a_g a_gb a_gr a_ge a_go a_gc gg_pieceCount gg_depth gg_ends gg_readersOf_11) [(6, .int l6_11), (4, .long (jlshl (1 : Int64) gg_pieceCount)), (0, .ref a_g), (1, .int p1), (2, .int p2), (3, .int p3)] [] 76 := by
    intro l6_11 gg_readersOf_11 h
    exact k_vret C d_Glob_setReads_76 (tr1 h (fun t => (fun (o : Option Value) (w : va_W) => o = none ∧ w = w_Glob_setReads (cI := cI) (cJ := cJ) (cC := cC) (cZ := cZ) (cR := cR) a_g a_gb a_gr a_ge a_go a_gc gg_pieceCount gg_depth gg_ends (t)) none (w_Glob_setReads (cI := cI) (cJ := cJ) (cC := cC) (cZ := cZ) (cR := cR) a_g a_gb a_gr a_ge a_go a_gc gg_pieceCount gg_depth gg_ends gg_readersOf_11)) ⟨rfl, rfl⟩)
  have L11 : ∀ (kk11_0 : Int32 → (Nat → Int64) → Option ((Nat → Int64))) (hX11_0 : ∀ (l6_11 : Int32) (gg_readersOf_11 : Nat → Int64), kk11_0 l6_11 gg_readersOf_11 = some o_gg_readersOf → Wk X { frames := 0, cells := 0, slots := 0, locals := 0 } 7 D (va_A (w_Glob_setReads (cI := cI) (cJ := cJ) (cC := cC) (cZ := cZ) (cR := cR) a_g a_gb a_gr a_ge a_go a_gc gg_pieceCount gg_depth gg_ends gg_readersOf) (xs X).heap.size) 0 0 (GE X D (w_Glob_setReads (cI := cI) (cJ := cJ) (cC := cC) (cZ := cZ) (cR := cR) a_g a_gb a_gr a_ge a_go a_gc gg_pieceCount gg_depth gg_ends gg_readersOf) (fun (o : Option Value) (w : va_W) => o = none ∧ w = w_Glob_setReads (cI := cI) (cJ := cJ) (cC := cC) (cZ := cZ) (cR := cR) a_g a_gb a_gr a_ge a_go a_gc gg_pieceCount gg_depth gg_ends o_gg_readersOf) 0 0) (w_Glob_setReads (cI := cI) (cJ := cJ) (cC := cC) (cZ := cZ) (cR := cR) a_g a_gb a_gr a_ge a_go a_gc gg_pieceCount gg_depth gg_ends gg_readersOf_11) [(6, .int l6_11), (4, .long (jlshl (1 : Int64) gg_pieceCount)), (0, .ref a_g), (1, .int p1), (2, .int p2), (3, .int p3)] [] 76) (n_11 : Nat) (l6_11 : Int32) (gg_readersOf_11 : Nat → Int64), f_Glob_setReads_L11 gg_pieceCount p2 p3 kk11_0 n_11 l6_11 gg_readersOf_11 = some o_gg_readersOf → Wk X { frames := 0, cells := 0, slots := 0, locals := 0 } 7 D (va_A (w_Glob_setReads (cI := cI) (cJ := cJ) (cC := cC) (cZ := cZ) (cR := cR) a_g a_gb a_gr a_ge a_go a_gc gg_pieceCount gg_depth gg_ends gg_readersOf) (xs X).heap.size) 0 0 (GE X D (w_Glob_setReads (cI := cI) (cJ := cJ) (cC := cC) (cZ := cZ) (cR := cR) a_g a_gb a_gr a_ge a_go a_gc gg_pieceCount gg_depth gg_ends gg_readersOf) (fun (o : Option Value) (w : va_W) => o = none ∧ w = w_Glob_setReads (cI := cI) (cJ := cJ) (cC := cC) (cZ := cZ) (cR := cR) a_g a_gb a_gr a_ge a_go a_gc gg_pieceCount gg_depth gg_ends o_gg_readersOf) 0 0) (w_Glob_setReads (cI := cI) (cJ := cJ) (cC := cC) (cZ := cZ) (cR := cR) a_g a_gb a_gr a_ge a_go a_gc gg_pieceCount gg_depth gg_ends gg_readersOf_11) [(6, .int l6_11), (4, .long (jlshl (1 : Int64) gg_pieceCount)), (0, .ref a_g), (1, .int p1), (2, .int p2), (3, .int p3)] [] 11 := by
    intro kk11_0 hX11_0 n_11
    induction n_11 with
    | zero =>
      intro l6_11 gg_readersOf_11 h
      exact nS h
    | succ n_11 ih11 =>
      intro l6_11 gg_readersOf_11 h
      replace h := (f_Glob_setReads_L11_s _ _ _ _ _ _ _).symm.trans h
      refine k_iload C d_Glob_setReads_11 0 rfl rfl ?_
      refine k_if_lt (tgt := 76) C d_Glob_setReads_13 (by decide) rfl (fun c1 => ?_) (fun c1 => ?_)
      · replace h := gi_t h c1
        exact hX11_0 l6_11 gg_readersOf_11 h
      · replace h := gi_f h c1
        refine k_iload C d_Glob_setReads_16 0 rfl rfl ?_
        refine k_iload_n C d_Glob_setReads_18 rfl 4 rfl rfl ?_
        refine k_icmp_gt (tgt := 76) C d_Glob_setReads_19 (by decide) rfl (fun c2 => ?_) (fun c2 => ?_)
        · replace h := gi_t h c2
          exact hX11_0 l6_11 gg_readersOf_11 h
        · replace h := gi_f h c2
          refine k_iload C d_Glob_setReads_22 0 rfl rfl ?_
          refine k_aload_n C d_Glob_setReads_24 rfl 2 rfl rfl ?_
          refine k_getf C d_Glob_setReads_25 hin_Glob rfl 1 (by decide) mw66 0 rfl rfl rfl ?_
          refine k_alen (z := (95 : Int32)) C d_Glob_setReads_28 1 1 rfl rfl rfl rfl ?_
          refine k_icmp_ge (tgt := 76) C d_Glob_setReads_29 (by decide) rfl (fun c3 => ?_) (fun c3 => ?_)
          · replace h := gi_t h c3
            exact hX11_0 l6_11 gg_readersOf_11 h
          · replace h := gi_f h c3
            refine k_aload_n C d_Glob_setReads_32 rfl 2 rfl rfl ?_
            refine k_getf C d_Glob_setReads_33 hin_Glob rfl 1 (by decide) mw66 0 rfl rfl rfl ?_
            refine k_iload C d_Glob_setReads_36 0 rfl rfl ?_
            refine k_iload_n C d_Glob_setReads_38 rfl 5 rfl rfl ?_
            refine k_if_eq (tgt := 55) C d_Glob_setReads_39 (by decide) rfl (fun c4 => ?_) (fun c4 => ?_)
            · replace h := gi_t h c4
              refine k_aload_n C d_Glob_setReads_55 rfl 2 rfl rfl ?_
              refine k_getf C d_Glob_setReads_56 hin_Glob rfl 1 (by decide) mw66 0 rfl rfl rfl ?_
              refine k_iload C d_Glob_setReads_59 0 rfl rfl ?_
              have g5 := gd1 h
              replace h := gd2 h
              refine k_lald C d_Glob_setReads_61 1 1 rfl rfl (inB_in g5) rfl ?_
              refine k_lload C d_Glob_setReads_62 1 rfl rfl ?_
              refine k_ldc2 C d_Glob_setReads_64 (v := (-1 : Int64)) mw71 rfl ?_
              refine k_lxor C d_Glob_setReads_67 rfl ?_
              refine k_land C d_Glob_setReads_68 rfl ?_
              have g6 := gd1 h
              replace h := gd2 h
              refine k_last (ws' := w_Glob_setReads (cI := cI) (cJ := cJ) (cC := cC) (cZ := cZ) (cR := cR) a_g a_gb a_gr a_ge a_go a_gc gg_pieceCount gg_depth gg_ends (vp_updL gg_readersOf_11 l6_11.toNatClampNeg ((gg_readersOf_11 l6_11.toNatClampNeg) &&& ((jlshl (1 : Int64) gg_pieceCount) ^^^ (-1 : Int64))))) C d_Glob_setReads_69 1 1 rfl rfl (inB_in g6) rfl rfl ?_
              refine k_iinc (lv' := [(6, .int (l6_11 + 1)), (4, .long (jlshl (1 : Int64) gg_pieceCount)), (0, .ref a_g), (1, .int p1), (2, .int p2), (3, .int p3)]) C d_Glob_setReads_70 0 rfl rfl (by decide) rfl rfl ?_
              refine k_goto (tgt := 11) C d_Glob_setReads_73 (by decide) ?_
              exact ih11 (l6_11 + 1) (vp_updL gg_readersOf_11 l6_11.toNatClampNeg ((gg_readersOf_11 l6_11.toNatClampNeg) &&& ((jlshl (1 : Int64) gg_pieceCount) ^^^ (-1 : Int64)))) h
            · replace h := gi_f h c4
              refine k_aload_n C d_Glob_setReads_42 rfl 2 rfl rfl ?_
              refine k_getf C d_Glob_setReads_43 hin_Glob rfl 1 (by decide) mw66 0 rfl rfl rfl ?_
              refine k_iload C d_Glob_setReads_46 0 rfl rfl ?_
              have g7 := gd1 h
              replace h := gd2 h
              refine k_lald C d_Glob_setReads_48 1 1 rfl rfl (inB_in g7) rfl ?_
              refine k_lload C d_Glob_setReads_49 1 rfl rfl ?_
              refine k_lor C d_Glob_setReads_51 rfl ?_
              refine k_goto (tgt := 69) C d_Glob_setReads_52 (by decide) ?_
              have g8 := gd1 h
              replace h := gd2 h
              refine k_last (ws' := w_Glob_setReads (cI := cI) (cJ := cJ) (cC := cC) (cZ := cZ) (cR := cR) a_g a_gb a_gr a_ge a_go a_gc gg_pieceCount gg_depth gg_ends (vp_updL gg_readersOf_11 l6_11.toNatClampNeg ((gg_readersOf_11 l6_11.toNatClampNeg) ||| (jlshl (1 : Int64) gg_pieceCount)))) C d_Glob_setReads_69 1 1 rfl rfl (inB_in g8) rfl rfl ?_
              refine k_iinc (lv' := [(6, .int (l6_11 + 1)), (4, .long (jlshl (1 : Int64) gg_pieceCount)), (0, .ref a_g), (1, .int p1), (2, .int p2), (3, .int p3)]) C d_Glob_setReads_70 0 rfl rfl (by decide) rfl rfl ?_
              refine k_goto (tgt := 11) C d_Glob_setReads_73 (by decide) ?_
              exact ih11 (l6_11 + 1) (vp_updL gg_readersOf_11 l6_11.toNatClampNeg ((gg_readersOf_11 l6_11.toNatClampNeg) ||| (jlshl (1 : Int64) gg_pieceCount))) h
  exact L11 (fun l6_11 gg_readersOf_11 => some gg_readersOf_11) X11_0 fu p1 gg_readersOf h
theorem d_Glob_isInChoice_0 : decode b_Glob_isInChoice 0 = .ok (.aload_n 0, 1) := by decide +kernel
theorem d_Glob_isInChoice_1 : decode b_Glob_isInChoice 1 = .ok (.getfield 38, 3) := by decide +kernel
theorem d_Glob_isInChoice_4 : decode b_Glob_isInChoice 4 = .ok (.ifCond .le 7, 3) := by decide +kernel
theorem d_Glob_isInChoice_7 : decode b_Glob_isInChoice 7 = .ok (.iconst 1, 1) := by decide +kernel
theorem d_Glob_isInChoice_8 : decode b_Glob_isInChoice 8 = .ok (.goto 4, 3) := by decide +kernel
theorem d_Glob_isInChoice_11 : decode b_Glob_isInChoice 11 = .ok (.iconst 0, 1) := by decide +kernel
theorem d_Glob_isInChoice_12 : decode b_Glob_isInChoice 12 = .ok (.ireturn, 1) := by decide +kernel
abbrev w_Glob_isInChoice {cI cJ cC cZ cR : ClassId} (a_g a_gb a_gr a_ge a_go a_gc : Nat) (gg_pieceCount : Int32) (gg_depth : Int32) (gg_ends : Int64) : va_W := [(a_g, .inr (2, [.ref a_gb, .ref a_gr, .ref a_ge, .ref a_go, .ref a_gc, .int gg_pieceCount, .int gg_depth, .long gg_ends]))]
def f_Glob_isInChoice (gg_depth : Int32) : Option (Int32) := (if gg_depth ≤ 0 then (if ((0 : Int32) = 0 ∨ (0 : Int32) = 1) then some (0 : Int32) else none) else (if ((1 : Int32) = 0 ∨ (1 : Int32) = 1) then some (1 : Int32) else none))
set_option maxRecDepth 100000 in
set_option maxHeartbeats 4000000 in
theorem c_Glob_isInChoice {l : Launch} {D : va_G} {cI cJ cC cZ cR : ClassId} (fu : Nat) (a_g a_gb a_gr a_ge a_go a_gc : Nat)   (gg_pieceCount : Int32) (gg_depth : Int32) (gg_ends : Int64)  (o_r : Int32) (h : f_Glob_isInChoice gg_depth = some o_r) : GM l D (tysL cI cJ cC cZ cR) y_Glob_isInChoice b_Glob_isInChoice 1 (some (.boolean)) { frames := 0, cells := 0, slots := 0, locals := 0 } [.ref a_g] (w_Glob_isInChoice (cI := cI) (cJ := cJ) (cC := cC) (cZ := cZ) (cR := cR) a_g a_gb a_gr a_ge a_go a_gc gg_pieceCount gg_depth gg_ends) (fun (o : Option Value) (w : va_W) => o = some (.int o_r) ∧ w = w_Glob_isInChoice (cI := cI) (cJ := cJ) (cC := cC) (cZ := cZ) (cR := cR) a_g a_gb a_gr a_ge a_go a_gc gg_pieceCount gg_depth gg_ends) := by
  refine GM.of (by decide) (Nat.le_of_ble_eq_true rfl) (lv := [(0, .ref a_g)]) rfl ?_
  intro X hX C
  subst hX
  refine k_aload_n C d_Glob_isInChoice_0 rfl 0 rfl rfl ?_
  refine k_getf C d_Glob_isInChoice_1 hin_Glob rfl 6 (by decide) mw68 0 rfl rfl rfl ?_
  refine k_if_le (tgt := 11) C d_Glob_isInChoice_4 (by decide) rfl (fun c1 => ?_) (fun c1 => ?_)
  · replace h := gi_t h c1
    refine k_iconst C d_Glob_isInChoice_11 (v := (0 : Int32)) (by decide) rfl ?_
    have g2 := gd1 h
    replace h := gd2 h
    exact k_zret C d_Glob_isInChoice_12 (nz_bool g2) (tr1 h (fun t => (fun (o : Option Value) (w : va_W) => o = some (.int (t)) ∧ w = w_Glob_isInChoice (cI := cI) (cJ := cJ) (cC := cC) (cZ := cZ) (cR := cR) a_g a_gb a_gr a_ge a_go a_gc gg_pieceCount gg_depth gg_ends) (some (Value.int (0 : Int32))) (w_Glob_isInChoice (cI := cI) (cJ := cJ) (cC := cC) (cZ := cZ) (cR := cR) a_g a_gb a_gr a_ge a_go a_gc gg_pieceCount gg_depth gg_ends)) ⟨rfl, rfl⟩)
  · replace h := gi_f h c1
    refine k_iconst C d_Glob_isInChoice_7 (v := (1 : Int32)) (by decide) rfl ?_
    refine k_goto (tgt := 12) C d_Glob_isInChoice_8 (by decide) ?_
    have g3 := gd1 h
    replace h := gd2 h
    exact k_zret C d_Glob_isInChoice_12 (nz_bool g3) (tr1 h (fun t => (fun (o : Option Value) (w : va_W) => o = some (.int (t)) ∧ w = w_Glob_isInChoice (cI := cI) (cJ := cJ) (cC := cC) (cZ := cZ) (cR := cR) a_g a_gb a_gr a_ge a_go a_gc gg_pieceCount gg_depth gg_ends) (some (Value.int (1 : Int32))) (w_Glob_isInChoice (cI := cI) (cJ := cJ) (cC := cC) (cZ := cZ) (cR := cR) a_g a_gb a_gr a_ge a_go a_gc gg_pieceCount gg_depth gg_ends)) ⟨rfl, rfl⟩)
theorem d_Glob_beginChoice_0 : decode b_Glob_beginChoice 0 = .ok (.aload_n 0, 1) := by decide +kernel
theorem d_Glob_beginChoice_1 : decode b_Glob_beginChoice 1 = .ok (.getfield 38, 3) := by decide +kernel
theorem d_Glob_beginChoice_4 : decode b_Glob_beginChoice 4 = .ok (.iconst 2, 1) := by decide +kernel
theorem d_Glob_beginChoice_5 : decode b_Glob_beginChoice 5 = .ok (.if_icmp .lt 5, 3) := by decide +kernel
theorem d_Glob_beginChoice_8 : decode b_Glob_beginChoice 8 = .ok (.iconst 0, 1) := by decide +kernel
theorem d_Glob_beginChoice_9 : decode b_Glob_beginChoice 9 = .ok (.ireturn, 1) := by decide +kernel
theorem d_Glob_beginChoice_10 : decode b_Glob_beginChoice 10 = .ok (.aload_n 0, 1) := by decide +kernel
theorem d_Glob_beginChoice_11 : decode b_Glob_beginChoice 11 = .ok (.getfield 18, 3) := by decide +kernel
theorem d_Glob_beginChoice_14 : decode b_Glob_beginChoice 14 = .ok (.aload_n 0, 1) := by decide +kernel
theorem d_Glob_beginChoice_15 : decode b_Glob_beginChoice 15 = .ok (.getfield 38, 3) := by decide +kernel
theorem d_Glob_beginChoice_18 : decode b_Glob_beginChoice 18 = .ok (.aload_n 0, 1) := by decide +kernel
theorem d_Glob_beginChoice_19 : decode b_Glob_beginChoice 19 = .ok (.getfield 41, 3) := by decide +kernel
theorem d_Glob_beginChoice_22 : decode b_Glob_beginChoice 22 = .ok (.lastore, 1) := by decide +kernel
theorem d_Glob_beginChoice_23 : decode b_Glob_beginChoice 23 = .ok (.aload_n 0, 1) := by decide +kernel
theorem d_Glob_beginChoice_24 : decode b_Glob_beginChoice 24 = .ok (.getfield 21, 3) := by decide +kernel
theorem d_Glob_beginChoice_27 : decode b_Glob_beginChoice 27 = .ok (.aload_n 0, 1) := by decide +kernel
theorem d_Glob_beginChoice_28 : decode b_Glob_beginChoice 28 = .ok (.getfield 38, 3) := by decide +kernel
theorem d_Glob_beginChoice_31 : decode b_Glob_beginChoice 31 = .ok (.lconst 0, 1) := by decide +kernel
theorem d_Glob_beginChoice_32 : decode b_Glob_beginChoice 32 = .ok (.lastore, 1) := by decide +kernel
theorem d_Glob_beginChoice_33 : decode b_Glob_beginChoice 33 = .ok (.aload_n 0, 1) := by decide +kernel
theorem d_Glob_beginChoice_34 : decode b_Glob_beginChoice 34 = .ok (.getfield 24, 3) := by decide +kernel
theorem d_Glob_beginChoice_37 : decode b_Glob_beginChoice 37 = .ok (.aload_n 0, 1) := by decide +kernel
theorem d_Glob_beginChoice_38 : decode b_Glob_beginChoice 38 = .ok (.getfield 38, 3) := by decide +kernel
theorem d_Glob_beginChoice_41 : decode b_Glob_beginChoice 41 = .ok (.iconst 1, 1) := by decide +kernel
theorem d_Glob_beginChoice_42 : decode b_Glob_beginChoice 42 = .ok (.iastore, 1) := by decide +kernel
theorem d_Glob_beginChoice_43 : decode b_Glob_beginChoice 43 = .ok (.aload_n 0, 1) := by decide +kernel
theorem d_Glob_beginChoice_44 : decode b_Glob_beginChoice 44 = .ok (.dup, 1) := by decide +kernel
theorem d_Glob_beginChoice_45 : decode b_Glob_beginChoice 45 = .ok (.getfield 38, 3) := by decide +kernel
theorem d_Glob_beginChoice_48 : decode b_Glob_beginChoice 48 = .ok (.iconst 1, 1) := by decide +kernel
theorem d_Glob_beginChoice_49 : decode b_Glob_beginChoice 49 = .ok (.iadd, 1) := by decide +kernel
theorem d_Glob_beginChoice_50 : decode b_Glob_beginChoice 50 = .ok (.putfield 38, 3) := by decide +kernel
theorem d_Glob_beginChoice_53 : decode b_Glob_beginChoice 53 = .ok (.iconst 1, 1) := by decide +kernel
theorem d_Glob_beginChoice_54 : decode b_Glob_beginChoice 54 = .ok (.ireturn, 1) := by decide +kernel
abbrev w_Glob_beginChoice {cI cJ cC cZ cR : ClassId} (a_g a_gb a_gr a_ge a_go a_gc : Nat) (gg_pieceCount : Int32) (gg_depth : Int32) (gg_ends : Int64) (gg_endsBefore : Nat → Int64) (gg_endsOfRows : Nat → Int64) (gg_rowCount : Nat → Int32) : va_W := [(a_g, .inr (2, [.ref a_gb, .ref a_gr, .ref a_ge, .ref a_go, .ref a_gc, .int gg_pieceCount, .int gg_depth, .long gg_ends])), (a_ge, .inl (cJ, 2, .inr (.inl gg_endsBefore))), (a_go, .inl (cJ, 2, .inr (.inl gg_endsOfRows))), (a_gc, .inl (cI, 2, .inl gg_rowCount))]
def f_Glob_beginChoice (gg_depth : Int32) (gg_ends : Int64) (gg_endsBefore : Nat → Int64) (gg_endsOfRows : Nat → Int64) (gg_rowCount : Nat → Int32) : Option (Int32 × Int32 × (Nat → Int64) × (Nat → Int64) × (Nat → Int32)) := (if gg_depth < (2 : Int32) then (if inB gg_depth 2 = true then (if inB gg_depth 2 = true then (if inB gg_depth 2 = true then (if ((1 : Int32) = 0 ∨ (1 : Int32) = 1) then some ((1 : Int32), (gg_depth + (1 : Int32)), (vp_updL gg_endsBefore gg_depth.toNatClampNeg gg_ends), (vp_updL gg_endsOfRows gg_depth.toNatClampNeg (0 : Int64)), (upd gg_rowCount gg_depth.toNatClampNeg (1 : Int32))) else none) else none) else none) else none) else (if ((0 : Int32) = 0 ∨ (0 : Int32) = 1) then some ((0 : Int32), gg_depth, gg_endsBefore, gg_endsOfRows, gg_rowCount) else none))
set_option maxRecDepth 100000 in
set_option maxHeartbeats 4000000 in
theorem c_Glob_beginChoice {l : Launch} {D : va_G} {cI cJ cC cZ cR : ClassId} (fu : Nat) (a_g a_gb a_gr a_ge a_go a_gc : Nat)   (gg_pieceCount : Int32) (gg_depth : Int32) (gg_ends : Int64) (gg_endsBefore : Nat → Int64) (gg_endsOfRows : Nat → Int64) (gg_rowCount : Nat → Int32)  (o_r : Int32) (o_gg_depth : Int32) (o_gg_endsBefore : Nat → Int64) (o_gg_endsOfRows : Nat → Int64) (o_gg_rowCount : Nat → Int32) (h : f_Glob_beginChoice gg_depth gg_ends gg_endsBefore gg_endsOfRows gg_rowCount = some (o_r, o_gg_depth, o_gg_endsBefore, o_gg_endsOfRows, o_gg_rowCount)) : GM l D (tysL cI cJ cC cZ cR) y_Glob_beginChoice b_Glob_beginChoice 1 (some (.boolean)) { frames := 0, cells := 0, slots := 0, locals := 0 } [.ref a_g] (w_Glob_beginChoice (cI := cI) (cJ := cJ) (cC := cC) (cZ := cZ) (cR := cR) a_g a_gb a_gr a_ge a_go a_gc gg_pieceCount gg_depth gg_ends gg_endsBefore gg_endsOfRows gg_rowCount) (fun (o : Option Value) (w : va_W) => o = some (.int o_r) ∧ w = w_Glob_beginChoice (cI := cI) (cJ := cJ) (cC := cC) (cZ := cZ) (cR := cR) a_g a_gb a_gr a_ge a_go a_gc gg_pieceCount o_gg_depth gg_ends o_gg_endsBefore o_gg_endsOfRows o_gg_rowCount) := by
  refine GM.of (by decide) (Nat.le_of_ble_eq_true rfl) (lv := [(0, .ref a_g)]) rfl ?_
  intro X hX C
  subst hX
  refine k_aload_n C d_Glob_beginChoice_0 rfl 0 rfl rfl ?_
  refine k_getf C d_Glob_beginChoice_1 hin_Glob rfl 6 (by decide) mw68 0 rfl rfl rfl ?_
  refine k_iconst C d_Glob_beginChoice_4 (v := (2 : Int32)) (by decide) rfl ?_
  refine k_icmp_lt (tgt := 10) C d_Glob_beginChoice_5 (by decide) rfl (fun c1 => ?_) (fun c1 => ?_)
  · replace h := gi_t h c1
    refine k_aload_n C d_Glob_beginChoice_10 rfl 0 rfl rfl ?_
    refine k_getf C d_Glob_beginChoice_11 hin_Glob rfl 2 (by decide) mw72 0 rfl rfl rfl ?_
    refine k_aload_n C d_Glob_beginChoice_14 rfl 0 rfl rfl ?_
    refine k_getf C d_Glob_beginChoice_15 hin_Glob rfl 6 (by decide) mw68 0 rfl rfl rfl ?_
    refine k_aload_n C d_Glob_beginChoice_18 rfl 0 rfl rfl ?_
    refine k_getf C d_Glob_beginChoice_19 hin_Glob rfl 7 (by decide) mw69 0 rfl rfl rfl ?_
    have g2 := gd1 h
    replace h := gd2 h
    refine k_last (ws' := w_Glob_beginChoice (cI := cI) (cJ := cJ) (cC := cC) (cZ := cZ) (cR := cR) a_g a_gb a_gr a_ge a_go a_gc gg_pieceCount gg_depth gg_ends (vp_updL gg_endsBefore gg_depth.toNatClampNeg gg_ends) gg_endsOfRows gg_rowCount) C d_Glob_beginChoice_22 1 1 rfl rfl (inB_in g2) rfl rfl ?_
    refine k_aload_n C d_Glob_beginChoice_23 rfl 0 rfl rfl ?_
    refine k_getf C d_Glob_beginChoice_24 hin_Glob rfl 3 (by decide) mw73 0 rfl rfl rfl ?_
    refine k_aload_n C d_Glob_beginChoice_27 rfl 0 rfl rfl ?_
    refine k_getf C d_Glob_beginChoice_28 hin_Glob rfl 6 (by decide) mw68 0 rfl rfl rfl ?_
    refine k_lconst C d_Glob_beginChoice_31 (v := (0 : Int64)) (by decide) rfl ?_
    have g3 := gd1 h
    replace h := gd2 h
    refine k_last (ws' := w_Glob_beginChoice (cI := cI) (cJ := cJ) (cC := cC) (cZ := cZ) (cR := cR) a_g a_gb a_gr a_ge a_go a_gc gg_pieceCount gg_depth gg_ends (vp_updL gg_endsBefore gg_depth.toNatClampNeg gg_ends) (vp_updL gg_endsOfRows gg_depth.toNatClampNeg (0 : Int64)) gg_rowCount) C d_Glob_beginChoice_32 2 1 rfl rfl (inB_in g3) rfl rfl ?_
    refine k_aload_n C d_Glob_beginChoice_33 rfl 0 rfl rfl ?_
    refine k_getf C d_Glob_beginChoice_34 hin_Glob rfl 4 (by decide) mw74 0 rfl rfl rfl ?_
    refine k_aload_n C d_Glob_beginChoice_37 rfl 0 rfl rfl ?_
    refine k_getf C d_Glob_beginChoice_38 hin_Glob rfl 6 (by decide) mw68 0 rfl rfl rfl ?_
    refine k_iconst C d_Glob_beginChoice_41 (v := (1 : Int32)) (by decide) rfl ?_
    have g4 := gd1 h
    replace h := gd2 h
    refine k_iast (ws' := w_Glob_beginChoice (cI := cI) (cJ := cJ) (cC := cC) (cZ := cZ) (cR := cR) a_g a_gb a_gr a_ge a_go a_gc gg_pieceCount gg_depth gg_ends (vp_updL gg_endsBefore gg_depth.toNatClampNeg gg_ends) (vp_updL gg_endsOfRows gg_depth.toNatClampNeg (0 : Int64)) (upd gg_rowCount gg_depth.toNatClampNeg (1 : Int32))) C d_Glob_beginChoice_42 3 0 rfl rfl (inB_in g4) rfl rfl ?_
    refine k_aload_n C d_Glob_beginChoice_43 rfl 0 rfl rfl ?_
    refine k_dup C d_Glob_beginChoice_44 rfl rfl ?_
    refine k_getf C d_Glob_beginChoice_45 hin_Glob rfl 6 (by decide) mw68 0 rfl rfl rfl ?_
    refine k_iconst C d_Glob_beginChoice_48 (v := (1 : Int32)) (by decide) rfl ?_
    refine k_iadd C d_Glob_beginChoice_49 rfl ?_
    refine k_putf (ws' := w_Glob_beginChoice (cI := cI) (cJ := cJ) (cC := cC) (cZ := cZ) (cR := cR) a_g a_gb a_gr a_ge a_go a_gc gg_pieceCount (gg_depth + (1 : Int32)) gg_ends (vp_updL gg_endsBefore gg_depth.toNatClampNeg gg_ends) (vp_updL gg_endsOfRows gg_depth.toNatClampNeg (0 : Int64)) (upd gg_rowCount gg_depth.toNatClampNeg (1 : Int32))) C d_Glob_beginChoice_50 hin_Glob hty_Glob hnn_Glob rfl 6 (by decide) mw68 rfl 0 rfl rfl rfl (Nat.le_of_ble_eq_true rfl) rfl rfl ?_
    refine k_iconst C d_Glob_beginChoice_53 (v := (1 : Int32)) (by decide) rfl ?_
    have g5 := gd1 h
    replace h := gd2 h
    exact k_zret C d_Glob_beginChoice_54 (nz_bool g5) (tr1 h (fun t => (fun (o : Option Value) (w : va_W) => o = some (.int (t.1)) ∧ w = w_Glob_beginChoice (cI := cI) (cJ := cJ) (cC := cC) (cZ := cZ) (cR := cR) a_g a_gb a_gr a_ge a_go a_gc gg_pieceCount (t.2.1) gg_ends (t.2.2.1) (t.2.2.2.1) (t.2.2.2.2)) (some (Value.int (1 : Int32))) (w_Glob_beginChoice (cI := cI) (cJ := cJ) (cC := cC) (cZ := cZ) (cR := cR) a_g a_gb a_gr a_ge a_go a_gc gg_pieceCount (gg_depth + (1 : Int32)) gg_ends (vp_updL gg_endsBefore gg_depth.toNatClampNeg gg_ends) (vp_updL gg_endsOfRows gg_depth.toNatClampNeg (0 : Int64)) (upd gg_rowCount gg_depth.toNatClampNeg (1 : Int32)))) ⟨rfl, rfl⟩)
  · replace h := gi_f h c1
    refine k_iconst C d_Glob_beginChoice_8 (v := (0 : Int32)) (by decide) rfl ?_
    have g6 := gd1 h
    replace h := gd2 h
    exact k_zret C d_Glob_beginChoice_9 (nz_bool g6) (tr1 h (fun t => (fun (o : Option Value) (w : va_W) => o = some (.int (t.1)) ∧ w = w_Glob_beginChoice (cI := cI) (cJ := cJ) (cC := cC) (cZ := cZ) (cR := cR) a_g a_gb a_gr a_ge a_go a_gc gg_pieceCount (t.2.1) gg_ends (t.2.2.1) (t.2.2.2.1) (t.2.2.2.2)) (some (Value.int (0 : Int32))) (w_Glob_beginChoice (cI := cI) (cJ := cJ) (cC := cC) (cZ := cZ) (cR := cR) a_g a_gb a_gr a_ge a_go a_gc gg_pieceCount gg_depth gg_ends gg_endsBefore gg_endsOfRows gg_rowCount)) ⟨rfl, rfl⟩)
theorem d_Glob_beginRow_0 : decode b_Glob_beginRow 0 = .ok (.aload_n 0, 1) := by decide +kernel
theorem d_Glob_beginRow_1 : decode b_Glob_beginRow 1 = .ok (.getfield 38, 3) := by decide +kernel
theorem d_Glob_beginRow_4 : decode b_Glob_beginRow 4 = .ok (.iconst 1, 1) := by decide +kernel
theorem d_Glob_beginRow_5 : decode b_Glob_beginRow 5 = .ok (.isub, 1) := by decide +kernel
theorem d_Glob_beginRow_6 : decode b_Glob_beginRow 6 = .ok (.istore_n 1, 1) := by decide +kernel
theorem d_Glob_beginRow_7 : decode b_Glob_beginRow 7 = .ok (.iload_n 1, 1) := by decide +kernel
theorem d_Glob_beginRow_8 : decode b_Glob_beginRow 8 = .ok (.ifCond .ge 5, 3) := by decide +kernel
theorem d_Glob_beginRow_11 : decode b_Glob_beginRow 11 = .ok (.iconst 0, 1) := by decide +kernel
theorem d_Glob_beginRow_12 : decode b_Glob_beginRow 12 = .ok (.ireturn, 1) := by decide +kernel
theorem d_Glob_beginRow_13 : decode b_Glob_beginRow 13 = .ok (.aload_n 0, 1) := by decide +kernel
theorem d_Glob_beginRow_14 : decode b_Glob_beginRow 14 = .ok (.getfield 21, 3) := by decide +kernel
theorem d_Glob_beginRow_17 : decode b_Glob_beginRow 17 = .ok (.iload_n 1, 1) := by decide +kernel
theorem d_Glob_beginRow_18 : decode b_Glob_beginRow 18 = .ok (.dup2, 1) := by decide +kernel
theorem d_Glob_beginRow_19 : decode b_Glob_beginRow 19 = .ok (.laload, 1) := by decide +kernel
theorem d_Glob_beginRow_20 : decode b_Glob_beginRow 20 = .ok (.aload_n 0, 1) := by decide +kernel
theorem d_Glob_beginRow_21 : decode b_Glob_beginRow 21 = .ok (.getfield 41, 3) := by decide +kernel
theorem d_Glob_beginRow_24 : decode b_Glob_beginRow 24 = .ok (.lor, 1) := by decide +kernel
theorem d_Glob_beginRow_25 : decode b_Glob_beginRow 25 = .ok (.lastore, 1) := by decide +kernel
theorem d_Glob_beginRow_26 : decode b_Glob_beginRow 26 = .ok (.aload_n 0, 1) := by decide +kernel
theorem d_Glob_beginRow_27 : decode b_Glob_beginRow 27 = .ok (.aload_n 0, 1) := by decide +kernel
theorem d_Glob_beginRow_28 : decode b_Glob_beginRow 28 = .ok (.getfield 18, 3) := by decide +kernel
theorem d_Glob_beginRow_31 : decode b_Glob_beginRow 31 = .ok (.iload_n 1, 1) := by decide +kernel
theorem d_Glob_beginRow_32 : decode b_Glob_beginRow 32 = .ok (.laload, 1) := by decide +kernel
theorem d_Glob_beginRow_33 : decode b_Glob_beginRow 33 = .ok (.putfield 41, 3) := by decide +kernel
theorem d_Glob_beginRow_36 : decode b_Glob_beginRow 36 = .ok (.aload_n 0, 1) := by decide +kernel
theorem d_Glob_beginRow_37 : decode b_Glob_beginRow 37 = .ok (.getfield 24, 3) := by decide +kernel
theorem d_Glob_beginRow_40 : decode b_Glob_beginRow 40 = .ok (.iload_n 1, 1) := by decide +kernel
theorem d_Glob_beginRow_41 : decode b_Glob_beginRow 41 = .ok (.dup2, 1) := by decide +kernel
theorem d_Glob_beginRow_42 : decode b_Glob_beginRow 42 = .ok (.iaload, 1) := by decide +kernel
theorem d_Glob_beginRow_43 : decode b_Glob_beginRow 43 = .ok (.iconst 1, 1) := by decide +kernel
theorem d_Glob_beginRow_44 : decode b_Glob_beginRow 44 = .ok (.iadd, 1) := by decide +kernel
theorem d_Glob_beginRow_45 : decode b_Glob_beginRow 45 = .ok (.iastore, 1) := by decide +kernel
theorem d_Glob_beginRow_46 : decode b_Glob_beginRow 46 = .ok (.iconst 1, 1) := by decide +kernel
theorem d_Glob_beginRow_47 : decode b_Glob_beginRow 47 = .ok (.ireturn, 1) := by decide +kernel
abbrev w_Glob_beginRow {cI cJ cC cZ cR : ClassId} (a_g a_gb a_gr a_ge a_go a_gc : Nat) (gg_pieceCount : Int32) (gg_depth : Int32) (gg_ends : Int64) (gg_endsBefore : Nat → Int64) (gg_endsOfRows : Nat → Int64) (gg_rowCount : Nat → Int32) : va_W := [(a_g, .inr (2, [.ref a_gb, .ref a_gr, .ref a_ge, .ref a_go, .ref a_gc, .int gg_pieceCount, .int gg_depth, .long gg_ends])), (a_ge, .inl (cJ, 2, .inr (.inl gg_endsBefore))), (a_go, .inl (cJ, 2, .inr (.inl gg_endsOfRows))), (a_gc, .inl (cI, 2, .inl gg_rowCount))]
def f_Glob_beginRow (gg_depth : Int32) (gg_ends : Int64) (gg_endsBefore : Nat → Int64) (gg_endsOfRows : Nat → Int64) (gg_rowCount : Nat → Int32) : Option (Int32 × Int64 × (Nat → Int64) × (Nat → Int32)) := (if 0 ≤ (gg_depth - (1 : Int32)) then (if inB (gg_depth - (1 : Int32)) 2 = true then (if inB (gg_depth - (1 : Int32)) 2 = true then (if inB (gg_depth - (1 : Int32)) 2 = true then (if inB (gg_depth - (1 : Int32)) 2 = true then (if inB (gg_depth - (1 : Int32)) 2 = true then (if ((1 : Int32) = 0 ∨ (1 : Int32) = 1) then some ((1 : Int32), (gg_endsBefore (gg_depth - (1 : Int32)).toNatClampNeg), (vp_updL gg_endsOfRows (gg_depth - (1 : Int32)).toNatClampNeg ((gg_endsOfRows (gg_depth - (1 : Int32)).toNatClampNeg) ||| gg_ends)), (upd gg_rowCount (gg_depth - (1 : Int32)).toNatClampNeg ((gg_rowCount (gg_depth - (1 : Int32)).toNatClampNeg) + (1 : Int32)))) else none) else none) else none) else none) else none) else none) else (if ((0 : Int32) = 0 ∨ (0 : Int32) = 1) then some ((0 : Int32), gg_ends, gg_endsOfRows, gg_rowCount) else none))
set_option maxRecDepth 100000 in
set_option maxHeartbeats 4000000 in
theorem c_Glob_beginRow {l : Launch} {D : va_G} {cI cJ cC cZ cR : ClassId} (fu : Nat) (a_g a_gb a_gr a_ge a_go a_gc : Nat)   (gg_pieceCount : Int32) (gg_depth : Int32) (gg_ends : Int64) (gg_endsBefore : Nat → Int64) (gg_endsOfRows : Nat → Int64) (gg_rowCount : Nat → Int32)  (o_r : Int32) (o_gg_ends : Int64) (o_gg_endsOfRows : Nat → Int64) (o_gg_rowCount : Nat → Int32) (h : f_Glob_beginRow gg_depth gg_ends gg_endsBefore gg_endsOfRows gg_rowCount = some (o_r, o_gg_ends, o_gg_endsOfRows, o_gg_rowCount)) : GM l D (tysL cI cJ cC cZ cR) y_Glob_beginRow b_Glob_beginRow 2 (some (.boolean)) { frames := 0, cells := 0, slots := 0, locals := 0 } [.ref a_g] (w_Glob_beginRow (cI := cI) (cJ := cJ) (cC := cC) (cZ := cZ) (cR := cR) a_g a_gb a_gr a_ge a_go a_gc gg_pieceCount gg_depth gg_ends gg_endsBefore gg_endsOfRows gg_rowCount) (fun (o : Option Value) (w : va_W) => o = some (.int o_r) ∧ w = w_Glob_beginRow (cI := cI) (cJ := cJ) (cC := cC) (cZ := cZ) (cR := cR) a_g a_gb a_gr a_ge a_go a_gc gg_pieceCount gg_depth o_gg_ends gg_endsBefore o_gg_endsOfRows o_gg_rowCount) := by
  refine GM.of (by decide) (Nat.le_of_ble_eq_true rfl) (lv := [(0, .ref a_g)]) rfl ?_
  intro X hX C
  subst hX
  refine k_aload_n C d_Glob_beginRow_0 rfl 0 rfl rfl ?_
  refine k_getf C d_Glob_beginRow_1 hin_Glob rfl 6 (by decide) mw68 0 rfl rfl rfl ?_
  refine k_iconst C d_Glob_beginRow_4 (v := (1 : Int32)) (by decide) rfl ?_
  refine k_isub C d_Glob_beginRow_5 rfl ?_
  refine k_istore_n (lv' := [(1, .int (gg_depth - (1 : Int32))), (0, .ref a_g)]) C d_Glob_beginRow_6 rfl (by decide) rfl rfl ?_
  refine k_iload_n C d_Glob_beginRow_7 rfl 0 rfl rfl ?_
  refine k_if_ge (tgt := 13) C d_Glob_beginRow_8 (by decide) rfl (fun c1 => ?_) (fun c1 => ?_)
  · replace h := gi_t h c1
    refine k_aload_n C d_Glob_beginRow_13 rfl 1 rfl rfl ?_
    refine k_getf C d_Glob_beginRow_14 hin_Glob rfl 3 (by decide) mw73 0 rfl rfl rfl ?_
    refine k_iload_n C d_Glob_beginRow_17 rfl 0 rfl rfl ?_
    refine k_dup2_11 C d_Glob_beginRow_18 rfl rfl rfl ?_
    have g2 := gd1 h
    replace h := gd2 h
    refine k_lald C d_Glob_beginRow_19 2 1 rfl rfl (inB_in g2) rfl ?_
    refine k_aload_n C d_Glob_beginRow_20 rfl 1 rfl rfl ?_
    refine k_getf C d_Glob_beginRow_21 hin_Glob rfl 7 (by decide) mw69 0 rfl rfl rfl ?_
    refine k_lor C d_Glob_beginRow_24 rfl ?_
    have g3 := gd1 h
    replace h := gd2 h
    refine k_last (ws' := w_Glob_beginRow (cI := cI) (cJ := cJ) (cC := cC) (cZ := cZ) (cR := cR) a_g a_gb a_gr a_ge a_go a_gc gg_pieceCount gg_depth gg_ends gg_endsBefore (vp_updL gg_endsOfRows (gg_depth - (1 : Int32)).toNatClampNeg ((gg_endsOfRows (gg_depth - (1 : Int32)).toNatClampNeg) ||| gg_ends)) gg_rowCount) C d_Glob_beginRow_25 2 1 rfl rfl (inB_in g3) rfl rfl ?_
    refine k_aload_n C d_Glob_beginRow_26 rfl 1 rfl rfl ?_
    refine k_aload_n C d_Glob_beginRow_27 rfl 1 rfl rfl ?_
    refine k_getf C d_Glob_beginRow_28 hin_Glob rfl 2 (by decide) mw72 0 rfl rfl rfl ?_
    refine k_iload_n C d_Glob_beginRow_31 rfl 0 rfl rfl ?_
    have g4 := gd1 h
    replace h := gd2 h
    refine k_lald C d_Glob_beginRow_32 1 1 rfl rfl (inB_in g4) rfl ?_
    refine k_putf (ws' := w_Glob_beginRow (cI := cI) (cJ := cJ) (cC := cC) (cZ := cZ) (cR := cR) a_g a_gb a_gr a_ge a_go a_gc gg_pieceCount gg_depth (gg_endsBefore (gg_depth - (1 : Int32)).toNatClampNeg) gg_endsBefore (vp_updL gg_endsOfRows (gg_depth - (1 : Int32)).toNatClampNeg ((gg_endsOfRows (gg_depth - (1 : Int32)).toNatClampNeg) ||| gg_ends)) gg_rowCount) C d_Glob_beginRow_33 hin_Glob hty_Glob hnn_Glob rfl 7 (by decide) mw69 rfl 0 rfl rfl rfl (Nat.le_of_ble_eq_true rfl) rfl rfl ?_
    refine k_aload_n C d_Glob_beginRow_36 rfl 1 rfl rfl ?_
    refine k_getf C d_Glob_beginRow_37 hin_Glob rfl 4 (by decide) mw74 0 rfl rfl rfl ?_
    refine k_iload_n C d_Glob_beginRow_40 rfl 0 rfl rfl ?_
    refine k_dup2_11 C d_Glob_beginRow_41 rfl rfl rfl ?_
    have g5 := gd1 h
    replace h := gd2 h
    refine k_iald C d_Glob_beginRow_42 3 0 rfl rfl (inB_in g5) rfl ?_
    refine k_iconst C d_Glob_beginRow_43 (v := (1 : Int32)) (by decide) rfl ?_
    refine k_iadd C d_Glob_beginRow_44 rfl ?_
    have g6 := gd1 h
    replace h := gd2 h
    refine k_iast (ws' := w_Glob_beginRow (cI := cI) (cJ := cJ) (cC := cC) (cZ := cZ) (cR := cR) a_g a_gb a_gr a_ge a_go a_gc gg_pieceCount gg_depth (gg_endsBefore (gg_depth - (1 : Int32)).toNatClampNeg) gg_endsBefore (vp_updL gg_endsOfRows (gg_depth - (1 : Int32)).toNatClampNeg ((gg_endsOfRows (gg_depth - (1 : Int32)).toNatClampNeg) ||| gg_ends)) (upd gg_rowCount (gg_depth - (1 : Int32)).toNatClampNeg ((gg_rowCount (gg_depth - (1 : Int32)).toNatClampNeg) + (1 : Int32)))) C d_Glob_beginRow_45 3 0 rfl rfl (inB_in g6) rfl rfl ?_
    refine k_iconst C d_Glob_beginRow_46 (v := (1 : Int32)) (by decide) rfl ?_
    have g7 := gd1 h
    replace h := gd2 h
    exact k_zret C d_Glob_beginRow_47 (nz_bool g7) (tr1 h (fun t => (fun (o : Option Value) (w : va_W) => o = some (.int (t.1)) ∧ w = w_Glob_beginRow (cI := cI) (cJ := cJ) (cC := cC) (cZ := cZ) (cR := cR) a_g a_gb a_gr a_ge a_go a_gc gg_pieceCount gg_depth (t.2.1) gg_endsBefore (t.2.2.1) (t.2.2.2)) (some (Value.int (1 : Int32))) (w_Glob_beginRow (cI := cI) (cJ := cJ) (cC := cC) (cZ := cZ) (cR := cR) a_g a_gb a_gr a_ge a_go a_gc gg_pieceCount gg_depth (gg_endsBefore (gg_depth - (1 : Int32)).toNatClampNeg) gg_endsBefore (vp_updL gg_endsOfRows (gg_depth - (1 : Int32)).toNatClampNeg ((gg_endsOfRows (gg_depth - (1 : Int32)).toNatClampNeg) ||| gg_ends)) (upd gg_rowCount (gg_depth - (1 : Int32)).toNatClampNeg ((gg_rowCount (gg_depth - (1 : Int32)).toNatClampNeg) + (1 : Int32))))) ⟨rfl, rfl⟩)
  · replace h := gi_f h c1
    refine k_iconst C d_Glob_beginRow_11 (v := (0 : Int32)) (by decide) rfl ?_
    have g8 := gd1 h
    replace h := gd2 h
    exact k_zret C d_Glob_beginRow_12 (nz_bool g8) (tr1 h (fun t => (fun (o : Option Value) (w : va_W) => o = some (.int (t.1)) ∧ w = w_Glob_beginRow (cI := cI) (cJ := cJ) (cC := cC) (cZ := cZ) (cR := cR) a_g a_gb a_gr a_ge a_go a_gc gg_pieceCount gg_depth (t.2.1) gg_endsBefore (t.2.2.1) (t.2.2.2)) (some (Value.int (0 : Int32))) (w_Glob_beginRow (cI := cI) (cJ := cJ) (cC := cC) (cZ := cZ) (cR := cR) a_g a_gb a_gr a_ge a_go a_gc gg_pieceCount gg_depth gg_ends gg_endsBefore gg_endsOfRows gg_rowCount)) ⟨rfl, rfl⟩)
theorem d_Glob_endChoice_0 : decode b_Glob_endChoice 0 = .ok (.aload_n 0, 1) := by decide +kernel
theorem d_Glob_endChoice_1 : decode b_Glob_endChoice 1 = .ok (.getfield 38, 3) := by decide +kernel
theorem d_Glob_endChoice_4 : decode b_Glob_endChoice 4 = .ok (.iconst 1, 1) := by decide +kernel
theorem d_Glob_endChoice_5 : decode b_Glob_endChoice 5 = .ok (.isub, 1) := by decide +kernel
theorem d_Glob_endChoice_6 : decode b_Glob_endChoice 6 = .ok (.istore_n 1, 1) := by decide +kernel
theorem d_Glob_endChoice_7 : decode b_Glob_endChoice 7 = .ok (.iload_n 1, 1) := by decide +kernel
theorem d_Glob_endChoice_8 : decode b_Glob_endChoice 8 = .ok (.ifCond .lt 13, 3) := by decide +kernel
theorem d_Glob_endChoice_11 : decode b_Glob_endChoice 11 = .ok (.aload_n 0, 1) := by decide +kernel
theorem d_Glob_endChoice_12 : decode b_Glob_endChoice 12 = .ok (.getfield 24, 3) := by decide +kernel
theorem d_Glob_endChoice_15 : decode b_Glob_endChoice 15 = .ok (.iload_n 1, 1) := by decide +kernel
theorem d_Glob_endChoice_16 : decode b_Glob_endChoice 16 = .ok (.iaload, 1) := by decide +kernel
theorem d_Glob_endChoice_17 : decode b_Glob_endChoice 17 = .ok (.iconst 2, 1) := by decide +kernel
theorem d_Glob_endChoice_18 : decode b_Glob_endChoice 18 = .ok (.if_icmp .ge 5, 3) := by decide +kernel
theorem d_Glob_endChoice_21 : decode b_Glob_endChoice 21 = .ok (.iconst 0, 1) := by decide +kernel
theorem d_Glob_endChoice_22 : decode b_Glob_endChoice 22 = .ok (.ireturn, 1) := by decide +kernel
theorem d_Glob_endChoice_23 : decode b_Glob_endChoice 23 = .ok (.aload_n 0, 1) := by decide +kernel
theorem d_Glob_endChoice_24 : decode b_Glob_endChoice 24 = .ok (.dup, 1) := by decide +kernel
theorem d_Glob_endChoice_25 : decode b_Glob_endChoice 25 = .ok (.getfield 41, 3) := by decide +kernel
theorem d_Glob_endChoice_28 : decode b_Glob_endChoice 28 = .ok (.aload_n 0, 1) := by decide +kernel
theorem d_Glob_endChoice_29 : decode b_Glob_endChoice 29 = .ok (.getfield 21, 3) := by decide +kernel
theorem d_Glob_endChoice_32 : decode b_Glob_endChoice 32 = .ok (.iload_n 1, 1) := by decide +kernel
theorem d_Glob_endChoice_33 : decode b_Glob_endChoice 33 = .ok (.laload, 1) := by decide +kernel
theorem d_Glob_endChoice_34 : decode b_Glob_endChoice 34 = .ok (.lor, 1) := by decide +kernel
theorem d_Glob_endChoice_35 : decode b_Glob_endChoice 35 = .ok (.putfield 41, 3) := by decide +kernel
theorem d_Glob_endChoice_38 : decode b_Glob_endChoice 38 = .ok (.aload_n 0, 1) := by decide +kernel
theorem d_Glob_endChoice_39 : decode b_Glob_endChoice 39 = .ok (.iload_n 1, 1) := by decide +kernel
theorem d_Glob_endChoice_40 : decode b_Glob_endChoice 40 = .ok (.putfield 38, 3) := by decide +kernel
theorem d_Glob_endChoice_43 : decode b_Glob_endChoice 43 = .ok (.iconst 1, 1) := by decide +kernel
theorem d_Glob_endChoice_44 : decode b_Glob_endChoice 44 = .ok (.ireturn, 1) := by decide +kernel
abbrev w_Glob_endChoice {cI cJ cC cZ cR : ClassId} (a_g a_gb a_gr a_ge a_go a_gc : Nat) (gg_pieceCount : Int32) (gg_depth : Int32) (gg_ends : Int64) (gg_endsOfRows : Nat → Int64) (gg_rowCount : Nat → Int32) : va_W := [(a_g, .inr (2, [.ref a_gb, .ref a_gr, .ref a_ge, .ref a_go, .ref a_gc, .int gg_pieceCount, .int gg_depth, .long gg_ends])), (a_go, .inl (cJ, 2, .inr (.inl gg_endsOfRows))), (a_gc, .inl (cI, 2, .inl gg_rowCount))]
def f_Glob_endChoice (gg_depth : Int32) (gg_ends : Int64) (gg_endsOfRows : Nat → Int64) (gg_rowCount : Nat → Int32) : Option (Int32 × Int32 × Int64) := (if (gg_depth - (1 : Int32)) < 0 then (if ((0 : Int32) = 0 ∨ (0 : Int32) = 1) then some ((0 : Int32), gg_depth, gg_ends) else none) else (if inB (gg_depth - (1 : Int32)) 2 = true then (if (2 : Int32) ≤ (gg_rowCount (gg_depth - (1 : Int32)).toNatClampNeg) then (if inB (gg_depth - (1 : Int32)) 2 = true then (if ((1 : Int32) = 0 ∨ (1 : Int32) = 1) then some ((1 : Int32), (gg_depth - (1 : Int32)), (gg_ends ||| (gg_endsOfRows (gg_depth - (1 : Int32)).toNatClampNeg))) else none) else none) else (if ((0 : Int32) = 0 ∨ (0 : Int32) = 1) then some ((0 : Int32), gg_depth, gg_ends) else none)) else none))
set_option maxRecDepth 100000 in
set_option maxHeartbeats 4000000 in
theorem c_Glob_endChoice {l : Launch} {D : va_G} {cI cJ cC cZ cR : ClassId} (fu : Nat) (a_g a_gb a_gr a_ge a_go a_gc : Nat)   (gg_pieceCount : Int32) (gg_depth : Int32) (gg_ends : Int64) (gg_endsOfRows : Nat → Int64) (gg_rowCount : Nat → Int32)  (o_r : Int32) (o_gg_depth : Int32) (o_gg_ends : Int64) (h : f_Glob_endChoice gg_depth gg_ends gg_endsOfRows gg_rowCount = some (o_r, o_gg_depth, o_gg_ends)) : GM l D (tysL cI cJ cC cZ cR) y_Glob_endChoice b_Glob_endChoice 2 (some (.boolean)) { frames := 0, cells := 0, slots := 0, locals := 0 } [.ref a_g] (w_Glob_endChoice (cI := cI) (cJ := cJ) (cC := cC) (cZ := cZ) (cR := cR) a_g a_gb a_gr a_ge a_go a_gc gg_pieceCount gg_depth gg_ends gg_endsOfRows gg_rowCount) (fun (o : Option Value) (w : va_W) => o = some (.int o_r) ∧ w = w_Glob_endChoice (cI := cI) (cJ := cJ) (cC := cC) (cZ := cZ) (cR := cR) a_g a_gb a_gr a_ge a_go a_gc gg_pieceCount o_gg_depth o_gg_ends gg_endsOfRows gg_rowCount) := by
  refine GM.of (by decide) (Nat.le_of_ble_eq_true rfl) (lv := [(0, .ref a_g)]) rfl ?_
  intro X hX C
  subst hX
  refine k_aload_n C d_Glob_endChoice_0 rfl 0 rfl rfl ?_
  refine k_getf C d_Glob_endChoice_1 hin_Glob rfl 6 (by decide) mw68 0 rfl rfl rfl ?_
  refine k_iconst C d_Glob_endChoice_4 (v := (1 : Int32)) (by decide) rfl ?_
  refine k_isub C d_Glob_endChoice_5 rfl ?_
  refine k_istore_n (lv' := [(1, .int (gg_depth - (1 : Int32))), (0, .ref a_g)]) C d_Glob_endChoice_6 rfl (by decide) rfl rfl ?_
  refine k_iload_n C d_Glob_endChoice_7 rfl 0 rfl rfl ?_
  refine k_if_lt (tgt := 21) C d_Glob_endChoice_8 (by decide) rfl (fun c1 => ?_) (fun c1 => ?_)
  · replace h := gi_t h c1
    refine k_iconst C d_Glob_endChoice_21 (v := (0 : Int32)) (by decide) rfl ?_
    have g2 := gd1 h
    replace h := gd2 h
    exact k_zret C d_Glob_endChoice_22 (nz_bool g2) (tr1 h (fun t => (fun (o : Option Value) (w : va_W) => o = some (.int (t.1)) ∧ w = w_Glob_endChoice (cI := cI) (cJ := cJ) (cC := cC) (cZ := cZ) (cR := cR) a_g a_gb a_gr a_ge a_go a_gc gg_pieceCount (t.2.1) (t.2.2) gg_endsOfRows gg_rowCount) (some (Value.int (0 : Int32))) (w_Glob_endChoice (cI := cI) (cJ := cJ) (cC := cC) (cZ := cZ) (cR := cR) a_g a_gb a_gr a_ge a_go a_gc gg_pieceCount gg_depth gg_ends gg_endsOfRows gg_rowCount)) ⟨rfl, rfl⟩)
  · replace h := gi_f h c1
    refine k_aload_n C d_Glob_endChoice_11 rfl 1 rfl rfl ?_
    refine k_getf C d_Glob_endChoice_12 hin_Glob rfl 4 (by decide) mw74 0 rfl rfl rfl ?_
    refine k_iload_n C d_Glob_endChoice_15 rfl 0 rfl rfl ?_
    have g3 := gd1 h
    replace h := gd2 h
    refine k_iald C d_Glob_endChoice_16 2 0 rfl rfl (inB_in g3) rfl ?_
    refine k_iconst C d_Glob_endChoice_17 (v := (2 : Int32)) (by decide) rfl ?_
    refine k_icmp_ge (tgt := 23) C d_Glob_endChoice_18 (by decide) rfl (fun c4 => ?_) (fun c4 => ?_)
    · replace h := gi_t h c4
      refine k_aload_n C d_Glob_endChoice_23 rfl 1 rfl rfl ?_
      refine k_dup C d_Glob_endChoice_24 rfl rfl ?_
      refine k_getf C d_Glob_endChoice_25 hin_Glob rfl 7 (by decide) mw69 0 rfl rfl rfl ?_
      refine k_aload_n C d_Glob_endChoice_28 rfl 1 rfl rfl ?_
      refine k_getf C d_Glob_endChoice_29 hin_Glob rfl 3 (by decide) mw73 0 rfl rfl rfl ?_
      refine k_iload_n C d_Glob_endChoice_32 rfl 0 rfl rfl ?_
      have g5 := gd1 h
      replace h := gd2 h
      refine k_lald C d_Glob_endChoice_33 1 1 rfl rfl (inB_in g5) rfl ?_
      refine k_lor C d_Glob_endChoice_34 rfl ?_
      refine k_putf (ws' := w_Glob_endChoice (cI := cI) (cJ := cJ) (cC := cC) (cZ := cZ) (cR := cR) a_g a_gb a_gr a_ge a_go a_gc gg_pieceCount gg_depth (gg_ends ||| (gg_endsOfRows (gg_depth - (1 : Int32)).toNatClampNeg)) gg_endsOfRows gg_rowCount) C d_Glob_endChoice_35 hin_Glob hty_Glob hnn_Glob rfl 7 (by decide) mw69 rfl 0 rfl rfl rfl (Nat.le_of_ble_eq_true rfl) rfl rfl ?_
      refine k_aload_n C d_Glob_endChoice_38 rfl 1 rfl rfl ?_
      refine k_iload_n C d_Glob_endChoice_39 rfl 0 rfl rfl ?_
      refine k_putf (ws' := w_Glob_endChoice (cI := cI) (cJ := cJ) (cC := cC) (cZ := cZ) (cR := cR) a_g a_gb a_gr a_ge a_go a_gc gg_pieceCount (gg_depth - (1 : Int32)) (gg_ends ||| (gg_endsOfRows (gg_depth - (1 : Int32)).toNatClampNeg)) gg_endsOfRows gg_rowCount) C d_Glob_endChoice_40 hin_Glob hty_Glob hnn_Glob rfl 6 (by decide) mw68 rfl 0 rfl rfl rfl (Nat.le_of_ble_eq_true rfl) rfl rfl ?_
      refine k_iconst C d_Glob_endChoice_43 (v := (1 : Int32)) (by decide) rfl ?_
      have g6 := gd1 h
      replace h := gd2 h
      exact k_zret C d_Glob_endChoice_44 (nz_bool g6) (tr1 h (fun t => (fun (o : Option Value) (w : va_W) => o = some (.int (t.1)) ∧ w = w_Glob_endChoice (cI := cI) (cJ := cJ) (cC := cC) (cZ := cZ) (cR := cR) a_g a_gb a_gr a_ge a_go a_gc gg_pieceCount (t.2.1) (t.2.2) gg_endsOfRows gg_rowCount) (some (Value.int (1 : Int32))) (w_Glob_endChoice (cI := cI) (cJ := cJ) (cC := cC) (cZ := cZ) (cR := cR) a_g a_gb a_gr a_ge a_go a_gc gg_pieceCount (gg_depth - (1 : Int32)) (gg_ends ||| (gg_endsOfRows (gg_depth - (1 : Int32)).toNatClampNeg)) gg_endsOfRows gg_rowCount)) ⟨rfl, rfl⟩)
    · replace h := gi_f h c4
      refine k_iconst C d_Glob_endChoice_21 (v := (0 : Int32)) (by decide) rfl ?_
      have g7 := gd1 h
      replace h := gd2 h
      exact k_zret C d_Glob_endChoice_22 (nz_bool g7) (tr1 h (fun t => (fun (o : Option Value) (w : va_W) => o = some (.int (t.1)) ∧ w = w_Glob_endChoice (cI := cI) (cJ := cJ) (cC := cC) (cZ := cZ) (cR := cR) a_g a_gb a_gr a_ge a_go a_gc gg_pieceCount (t.2.1) (t.2.2) gg_endsOfRows gg_rowCount) (some (Value.int (0 : Int32))) (w_Glob_endChoice (cI := cI) (cJ := cJ) (cC := cC) (cZ := cZ) (cR := cR) a_g a_gb a_gr a_ge a_go a_gc gg_pieceCount gg_depth gg_ends gg_endsOfRows gg_rowCount)) ⟨rfl, rfl⟩)
theorem d_Glob_copy_0 : decode b_Glob_copy 0 = .ok (.aload_n 1, 1) := by decide +kernel
theorem d_Glob_copy_1 : decode b_Glob_copy 1 = .ok (.ifnonnull 4, 3) := by decide +kernel
theorem d_Glob_copy_4 : decode b_Glob_copy 4 = .ok (.return_, 1) := by decide +kernel
theorem d_Glob_copy_5 : decode b_Glob_copy 5 = .ok (.aload_n 1, 1) := by decide +kernel
theorem d_Glob_copy_6 : decode b_Glob_copy 6 = .ok (.getfield 9, 3) := by decide +kernel
theorem d_Glob_copy_9 : decode b_Glob_copy 9 = .ok (.iconst 0, 1) := by decide +kernel
theorem d_Glob_copy_10 : decode b_Glob_copy 10 = .ok (.aload_n 0, 1) := by decide +kernel
theorem d_Glob_copy_11 : decode b_Glob_copy 11 = .ok (.getfield 9, 3) := by decide +kernel
theorem d_Glob_copy_14 : decode b_Glob_copy 14 = .ok (.iconst 0, 1) := by decide +kernel
theorem d_Glob_copy_15 : decode b_Glob_copy 15 = .ok (.aload_n 0, 1) := by decide +kernel
theorem d_Glob_copy_16 : decode b_Glob_copy 16 = .ok (.getfield 9, 3) := by decide +kernel
theorem d_Glob_copy_19 : decode b_Glob_copy 19 = .ok (.arraylength, 1) := by decide +kernel
theorem d_Glob_copy_20 : decode b_Glob_copy 20 = .ok (.invokestatic 45, 3) := by decide +kernel
theorem d_Glob_copy_23 : decode b_Glob_copy 23 = .ok (.aload_n 1, 1) := by decide +kernel
theorem d_Glob_copy_24 : decode b_Glob_copy 24 = .ok (.getfield 15, 3) := by decide +kernel
theorem d_Glob_copy_27 : decode b_Glob_copy 27 = .ok (.iconst 0, 1) := by decide +kernel
theorem d_Glob_copy_28 : decode b_Glob_copy 28 = .ok (.aload_n 0, 1) := by decide +kernel
theorem d_Glob_copy_29 : decode b_Glob_copy 29 = .ok (.getfield 15, 3) := by decide +kernel
theorem d_Glob_copy_32 : decode b_Glob_copy 32 = .ok (.iconst 0, 1) := by decide +kernel
theorem d_Glob_copy_33 : decode b_Glob_copy 33 = .ok (.aload_n 0, 1) := by decide +kernel
theorem d_Glob_copy_34 : decode b_Glob_copy 34 = .ok (.getfield 15, 3) := by decide +kernel
theorem d_Glob_copy_37 : decode b_Glob_copy 37 = .ok (.arraylength, 1) := by decide +kernel
theorem d_Glob_copy_38 : decode b_Glob_copy 38 = .ok (.invokestatic 45, 3) := by decide +kernel
theorem d_Glob_copy_41 : decode b_Glob_copy 41 = .ok (.aload_n 0, 1) := by decide +kernel
theorem d_Glob_copy_42 : decode b_Glob_copy 42 = .ok (.aload_n 1, 1) := by decide +kernel
theorem d_Glob_copy_43 : decode b_Glob_copy 43 = .ok (.getfield 34, 3) := by decide +kernel
theorem d_Glob_copy_46 : decode b_Glob_copy 46 = .ok (.putfield 34, 3) := by decide +kernel
theorem d_Glob_copy_49 : decode b_Glob_copy 49 = .ok (.aload_n 0, 1) := by decide +kernel
theorem d_Glob_copy_50 : decode b_Glob_copy 50 = .ok (.aload_n 1, 1) := by decide +kernel
theorem d_Glob_copy_51 : decode b_Glob_copy 51 = .ok (.getfield 38, 3) := by decide +kernel
theorem d_Glob_copy_54 : decode b_Glob_copy 54 = .ok (.putfield 38, 3) := by decide +kernel
theorem d_Glob_copy_57 : decode b_Glob_copy 57 = .ok (.aload_n 0, 1) := by decide +kernel
theorem d_Glob_copy_58 : decode b_Glob_copy 58 = .ok (.aload_n 1, 1) := by decide +kernel
theorem d_Glob_copy_59 : decode b_Glob_copy 59 = .ok (.getfield 41, 3) := by decide +kernel
theorem d_Glob_copy_62 : decode b_Glob_copy 62 = .ok (.putfield 41, 3) := by decide +kernel
theorem d_Glob_copy_65 : decode b_Glob_copy 65 = .ok (.return_, 1) := by decide +kernel
abbrev w_Glob_copy {cI cJ cC cZ cR : ClassId} (a_g a_gb a_gr a_ge a_go a_gc a_h a_hb a_hr a_he a_ho a_hc : Nat) (gg_pieceCount : Int32) (gg_depth : Int32) (gg_ends : Int64) (gg_behind : Nat → Int64) (gg_readersOf : Nat → Int64) (hh_pieceCount : Int32) (hh_depth : Int32) (hh_ends : Int64) (hh_behind : Nat → Int64) (hh_readersOf : Nat → Int64) : va_W := [(a_g, .inr (2, [.ref a_gb, .ref a_gr, .ref a_ge, .ref a_go, .ref a_gc, .int gg_pieceCount, .int gg_depth, .long gg_ends])), (a_gb, .inl (cJ, 41, .inr (.inl gg_behind))), (a_gr, .inl (cJ, 95, .inr (.inl gg_readersOf))), (a_h, .inr (2, [.ref a_hb, .ref a_hr, .ref a_he, .ref a_ho, .ref a_hc, .int hh_pieceCount, .int hh_depth, .long hh_ends])), (a_hb, .inl (cJ, 41, .inr (.inl hh_behind))), (a_hr, .inl (cJ, 95, .inr (.inl hh_readersOf)))]
def f_Glob_copy (gg_behind : Nat → Int64) (gg_readersOf : Nat → Int64) (hh_pieceCount : Int32) (hh_depth : Int32) (hh_ends : Int64) (hh_behind : Nat → Int64) (hh_readersOf : Nat → Int64) : Option (Int32 × Int32 × Int64 × (Nat → Int64) × (Nat → Int64)) := (if cpG (0 : Int32) (0 : Int32) (41 : Int32) 41 41 = true then (if cpG (0 : Int32) (0 : Int32) (95 : Int32) 95 95 = true then some (hh_pieceCount, hh_depth, hh_ends, (va_cpy hh_behind gg_behind (0 : Int32).toNatClampNeg (0 : Int32).toNatClampNeg (41 : Int32).toNatClampNeg), (va_cpy hh_readersOf gg_readersOf (0 : Int32).toNatClampNeg (0 : Int32).toNatClampNeg (95 : Int32).toNatClampNeg)) else none) else none)
set_option maxRecDepth 100000 in
set_option maxHeartbeats 4000000 in
theorem c_Glob_copy {l : Launch} {D : va_G} {cI cJ cC cZ cR : ClassId} (fu : Nat) (a_g a_gb a_gr a_ge a_go a_gc a_h a_hb a_hr a_he a_ho a_hc : Nat)   (gg_pieceCount : Int32) (gg_depth : Int32) (gg_ends : Int64) (gg_behind : Nat → Int64) (gg_readersOf : Nat → Int64) (hh_pieceCount : Int32) (hh_depth : Int32) (hh_ends : Int64) (hh_behind : Nat → Int64) (hh_readersOf : Nat → Int64)  (o_gg_pieceCount : Int32) (o_gg_depth : Int32) (o_gg_ends : Int64) (o_gg_behind : Nat → Int64) (o_gg_readersOf : Nat → Int64) (h : f_Glob_copy gg_behind gg_readersOf hh_pieceCount hh_depth hh_ends hh_behind hh_readersOf = some (o_gg_pieceCount, o_gg_depth, o_gg_ends, o_gg_behind, o_gg_readersOf)) : GM l D (tysL cI cJ cC cZ cR) y_Glob_copy b_Glob_copy 2 none { frames := 1, cells := 0, slots := 0, locals := 64 } [.ref a_g, .ref a_h] (w_Glob_copy (cI := cI) (cJ := cJ) (cC := cC) (cZ := cZ) (cR := cR) a_g a_gb a_gr a_ge a_go a_gc a_h a_hb a_hr a_he a_ho a_hc gg_pieceCount gg_depth gg_ends gg_behind gg_readersOf hh_pieceCount hh_depth hh_ends hh_behind hh_readersOf) (fun (o : Option Value) (w : va_W) => o = none ∧ w = w_Glob_copy (cI := cI) (cJ := cJ) (cC := cC) (cZ := cZ) (cR := cR) a_g a_gb a_gr a_ge a_go a_gc a_h a_hb a_hr a_he a_ho a_hc o_gg_pieceCount o_gg_depth o_gg_ends o_gg_behind o_gg_readersOf hh_pieceCount hh_depth hh_ends hh_behind hh_readersOf) := by
  refine GM.of (by decide) (Nat.le_of_ble_eq_true rfl) (lv := [(0, .ref a_g), (1, .ref a_h)]) rfl ?_
  intro X hX C
  subst hX
  refine k_aload_n C d_Glob_copy_0 rfl 1 rfl rfl ?_
  refine k_ifnonnull (tgt := 5) C d_Glob_copy_1 (by decide) ?_
  refine k_aload_n C d_Glob_copy_5 rfl 1 rfl rfl ?_
  refine k_getf C d_Glob_copy_6 hin_Glob rfl 0 (by decide) mw65 3 rfl rfl rfl ?_
  refine k_iconst C d_Glob_copy_9 (v := (0 : Int32)) (by decide) rfl ?_
  refine k_aload_n C d_Glob_copy_10 rfl 0 rfl rfl ?_
  refine k_getf C d_Glob_copy_11 hin_Glob rfl 0 (by decide) mw65 0 rfl rfl rfl ?_
  refine k_iconst C d_Glob_copy_14 (v := (0 : Int32)) (by decide) rfl ?_
  refine k_aload_n C d_Glob_copy_15 rfl 0 rfl rfl ?_
  refine k_getf C d_Glob_copy_16 hin_Glob rfl 0 (by decide) mw65 0 rfl rfl rfl ?_
  refine k_alen (z := (41 : Int32)) C d_Glob_copy_19 1 1 rfl rfl rfl rfl ?_
  have g1 := gd1 h
  replace h := gd2 h
  refine k_copyl (ws' := w_Glob_copy (cI := cI) (cJ := cJ) (cC := cC) (cZ := cZ) (cR := cR) a_g a_gb a_gr a_ge a_go a_gc a_h a_hb a_hr a_he a_ho a_hc gg_pieceCount gg_depth gg_ends (va_cpy hh_behind gg_behind (0 : Int32).toNatClampNeg (0 : Int32).toNatClampNeg (41 : Int32).toNatClampNeg) gg_readersOf hh_pieceCount hh_depth hh_ends hh_behind hh_readersOf) C d_Glob_copy_20 mw75 h_acopy 4 1 1 1 rfl rfl rfl rfl (cpG_in g1) (by decide) (Nat.le_of_ble_eq_true rfl) rfl rfl ?_
  refine k_aload_n C d_Glob_copy_23 rfl 1 rfl rfl ?_
  refine k_getf C d_Glob_copy_24 hin_Glob rfl 1 (by decide) mw66 3 rfl rfl rfl ?_
  refine k_iconst C d_Glob_copy_27 (v := (0 : Int32)) (by decide) rfl ?_
  refine k_aload_n C d_Glob_copy_28 rfl 0 rfl rfl ?_
  refine k_getf C d_Glob_copy_29 hin_Glob rfl 1 (by decide) mw66 0 rfl rfl rfl ?_
  refine k_iconst C d_Glob_copy_32 (v := (0 : Int32)) (by decide) rfl ?_
  refine k_aload_n C d_Glob_copy_33 rfl 0 rfl rfl ?_
  refine k_getf C d_Glob_copy_34 hin_Glob rfl 1 (by decide) mw66 0 rfl rfl rfl ?_
  refine k_alen (z := (95 : Int32)) C d_Glob_copy_37 2 1 rfl rfl rfl rfl ?_
  have g2 := gd1 h
  replace h := gd2 h
  refine k_copyl (ws' := w_Glob_copy (cI := cI) (cJ := cJ) (cC := cC) (cZ := cZ) (cR := cR) a_g a_gb a_gr a_ge a_go a_gc a_h a_hb a_hr a_he a_ho a_hc gg_pieceCount gg_depth gg_ends (va_cpy hh_behind gg_behind (0 : Int32).toNatClampNeg (0 : Int32).toNatClampNeg (41 : Int32).toNatClampNeg) (va_cpy hh_readersOf gg_readersOf (0 : Int32).toNatClampNeg (0 : Int32).toNatClampNeg (95 : Int32).toNatClampNeg) hh_pieceCount hh_depth hh_ends hh_behind hh_readersOf) C d_Glob_copy_38 mw75 h_acopy 5 2 1 1 rfl rfl rfl rfl (cpG_in g2) (by decide) (Nat.le_of_ble_eq_true rfl) rfl rfl ?_
  refine k_aload_n C d_Glob_copy_41 rfl 0 rfl rfl ?_
  refine k_aload_n C d_Glob_copy_42 rfl 1 rfl rfl ?_
  refine k_getf C d_Glob_copy_43 hin_Glob rfl 5 (by decide) mw67 3 rfl rfl rfl ?_
  refine k_putf (ws' := w_Glob_copy (cI := cI) (cJ := cJ) (cC := cC) (cZ := cZ) (cR := cR) a_g a_gb a_gr a_ge a_go a_gc a_h a_hb a_hr a_he a_ho a_hc hh_pieceCount gg_depth gg_ends (va_cpy hh_behind gg_behind (0 : Int32).toNatClampNeg (0 : Int32).toNatClampNeg (41 : Int32).toNatClampNeg) (va_cpy hh_readersOf gg_readersOf (0 : Int32).toNatClampNeg (0 : Int32).toNatClampNeg (95 : Int32).toNatClampNeg) hh_pieceCount hh_depth hh_ends hh_behind hh_readersOf) C d_Glob_copy_46 hin_Glob hty_Glob hnn_Glob rfl 5 (by decide) mw67 rfl 0 rfl rfl rfl (Nat.le_of_ble_eq_true rfl) rfl rfl ?_
  refine k_aload_n C d_Glob_copy_49 rfl 0 rfl rfl ?_
  refine k_aload_n C d_Glob_copy_50 rfl 1 rfl rfl ?_
  refine k_getf C d_Glob_copy_51 hin_Glob rfl 6 (by decide) mw68 3 rfl rfl rfl ?_
  refine k_putf (ws' := w_Glob_copy (cI := cI) (cJ := cJ) (cC := cC) (cZ := cZ) (cR := cR) a_g a_gb a_gr a_ge a_go a_gc a_h a_hb a_hr a_he a_ho a_hc hh_pieceCount hh_depth gg_ends (va_cpy hh_behind gg_behind (0 : Int32).toNatClampNeg (0 : Int32).toNatClampNeg (41 : Int32).toNatClampNeg) (va_cpy hh_readersOf gg_readersOf (0 : Int32).toNatClampNeg (0 : Int32).toNatClampNeg (95 : Int32).toNatClampNeg) hh_pieceCount hh_depth hh_ends hh_behind hh_readersOf) C d_Glob_copy_54 hin_Glob hty_Glob hnn_Glob rfl 6 (by decide) mw68 rfl 0 rfl rfl rfl (Nat.le_of_ble_eq_true rfl) rfl rfl ?_
  refine k_aload_n C d_Glob_copy_57 rfl 0 rfl rfl ?_
  refine k_aload_n C d_Glob_copy_58 rfl 1 rfl rfl ?_
  refine k_getf C d_Glob_copy_59 hin_Glob rfl 7 (by decide) mw69 3 rfl rfl rfl ?_
  refine k_putf (ws' := w_Glob_copy (cI := cI) (cJ := cJ) (cC := cC) (cZ := cZ) (cR := cR) a_g a_gb a_gr a_ge a_go a_gc a_h a_hb a_hr a_he a_ho a_hc hh_pieceCount hh_depth hh_ends (va_cpy hh_behind gg_behind (0 : Int32).toNatClampNeg (0 : Int32).toNatClampNeg (41 : Int32).toNatClampNeg) (va_cpy hh_readersOf gg_readersOf (0 : Int32).toNatClampNeg (0 : Int32).toNatClampNeg (95 : Int32).toNatClampNeg) hh_pieceCount hh_depth hh_ends hh_behind hh_readersOf) C d_Glob_copy_62 hin_Glob hty_Glob hnn_Glob rfl 7 (by decide) mw69 rfl 0 rfl rfl rfl (Nat.le_of_ble_eq_true rfl) rfl rfl ?_
  exact k_vret C d_Glob_copy_65 (tr1 h (fun t => (fun (o : Option Value) (w : va_W) => o = none ∧ w = w_Glob_copy (cI := cI) (cJ := cJ) (cC := cC) (cZ := cZ) (cR := cR) a_g a_gb a_gr a_ge a_go a_gc a_h a_hb a_hr a_he a_ho a_hc (t.1) (t.2.1) (t.2.2.1) (t.2.2.2.1) (t.2.2.2.2) hh_pieceCount hh_depth hh_ends hh_behind hh_readersOf) none (w_Glob_copy (cI := cI) (cJ := cJ) (cC := cC) (cZ := cZ) (cR := cR) a_g a_gb a_gr a_ge a_go a_gc a_h a_hb a_hr a_he a_ho a_hc hh_pieceCount hh_depth hh_ends (va_cpy hh_behind gg_behind (0 : Int32).toNatClampNeg (0 : Int32).toNatClampNeg (41 : Int32).toNatClampNeg) (va_cpy hh_readersOf gg_readersOf (0 : Int32).toNatClampNeg (0 : Int32).toNatClampNeg (95 : Int32).toNatClampNeg) hh_pieceCount hh_depth hh_ends hh_behind hh_readersOf)) ⟨rfl, rfl⟩)
theorem d_Rule_fill_0 : decode b_Rule_fill 0 = .ok (.aload_n 0, 1) := by decide +kernel
theorem d_Rule_fill_1 : decode b_Rule_fill 1 = .ok (.getfield 10, 3) := by decide +kernel
theorem d_Rule_fill_4 : decode b_Rule_fill 4 = .ok (.aload_n 1, 1) := by decide +kernel
theorem d_Rule_fill_5 : decode b_Rule_fill 5 = .ok (.invokevirtual 16, 3) := by decide +kernel
theorem d_Rule_fill_8 : decode b_Rule_fill 8 = .ok (.aload_n 0, 1) := by decide +kernel
theorem d_Rule_fill_9 : decode b_Rule_fill 9 = .ok (.iload_n 2, 1) := by decide +kernel
theorem d_Rule_fill_10 : decode b_Rule_fill 10 = .ok (.putfield 20, 3) := by decide +kernel
theorem d_Rule_fill_13 : decode b_Rule_fill 13 = .ok (.aload_n 0, 1) := by decide +kernel
theorem d_Rule_fill_14 : decode b_Rule_fill 14 = .ok (.iload_n 3, 1) := by decide +kernel
theorem d_Rule_fill_15 : decode b_Rule_fill 15 = .ok (.putfield 24, 3) := by decide +kernel
theorem d_Rule_fill_18 : decode b_Rule_fill 18 = .ok (.return_, 1) := by decide +kernel
abbrev w_Rule_fill {cI cJ cC cZ cR : ClassId} (a_u a_g a_gb a_gr a_ge a_go a_gc a_h a_hb a_hr a_he a_ho a_hc : Nat) (uu_allows : Int32) (uu_permissions : Int32) (gg_pieceCount : Int32) (gg_depth : Int32) (gg_ends : Int64) (gg_behind : Nat → Int64) (gg_readersOf : Nat → Int64) (hh_pieceCount : Int32) (hh_depth : Int32) (hh_ends : Int64) (hh_behind : Nat → Int64) (hh_readersOf : Nat → Int64) : va_W := [(a_u, .inr (3, [.ref a_g, .int uu_allows, .int uu_permissions])), (a_g, .inr (2, [.ref a_gb, .ref a_gr, .ref a_ge, .ref a_go, .ref a_gc, .int gg_pieceCount, .int gg_depth, .long gg_ends])), (a_gb, .inl (cJ, 41, .inr (.inl gg_behind))), (a_gr, .inl (cJ, 95, .inr (.inl gg_readersOf))), (a_h, .inr (2, [.ref a_hb, .ref a_hr, .ref a_he, .ref a_ho, .ref a_hc, .int hh_pieceCount, .int hh_depth, .long hh_ends])), (a_hb, .inl (cJ, 41, .inr (.inl hh_behind))), (a_hr, .inl (cJ, 95, .inr (.inl hh_readersOf)))]
def f_Rule_fill (p2 : Int32) (p3 : Int32) (gg_behind : Nat → Int64) (gg_readersOf : Nat → Int64) (hh_pieceCount : Int32) (hh_depth : Int32) (hh_ends : Int64) (hh_behind : Nat → Int64) (hh_readersOf : Nat → Int64) : Option (Int32 × Int32 × Int32 × Int32 × Int64 × (Nat → Int64) × (Nat → Int64)) := (Option.bind (f_Glob_copy gg_behind gg_readersOf hh_pieceCount hh_depth hh_ends hh_behind hh_readersOf) fun (ygg_pieceCount_1, ygg_depth_2, ygg_ends_3, ygg_behind_4, ygg_readersOf_5) => (if (p2 = 0 ∨ p2 = 1) then some (p2, p3, ygg_pieceCount_1, ygg_depth_2, ygg_ends_3, ygg_behind_4, ygg_readersOf_5) else none))
set_option maxRecDepth 100000 in
set_option maxHeartbeats 4000000 in
theorem c_Rule_fill {l : Launch} {D : va_G} {cI cJ cC cZ cR : ClassId} (fu : Nat) (a_u a_g a_gb a_gr a_ge a_go a_gc a_h a_hb a_hr a_he a_ho a_hc : Nat)   (uu_allows : Int32) (uu_permissions : Int32) (gg_pieceCount : Int32) (gg_depth : Int32) (gg_ends : Int64) (gg_behind : Nat → Int64) (gg_readersOf : Nat → Int64) (hh_pieceCount : Int32) (hh_depth : Int32) (hh_ends : Int64) (hh_behind : Nat → Int64) (hh_readersOf : Nat → Int64) (p2 : Int32) (p3 : Int32) (o_uu_allows : Int32) (o_uu_permissions : Int32) (o_gg_pieceCount : Int32) (o_gg_depth : Int32) (o_gg_ends : Int64) (o_gg_behind : Nat → Int64) (o_gg_readersOf : Nat → Int64) (h : f_Rule_fill p2 p3 gg_behind gg_readersOf hh_pieceCount hh_depth hh_ends hh_behind hh_readersOf = some (o_uu_allows, o_uu_permissions, o_gg_pieceCount, o_gg_depth, o_gg_ends, o_gg_behind, o_gg_readersOf)) : GM l D (tysL cI cJ cC cZ cR) y_Rule_fill b_Rule_fill 4 none { frames := 2, cells := 0, slots := 0, locals := 85 } [.ref a_u, .ref a_h, .int p2, .int p3] (w_Rule_fill (cI := cI) (cJ := cJ) (cC := cC) (cZ := cZ) (cR := cR) a_u a_g a_gb a_gr a_ge a_go a_gc a_h a_hb a_hr a_he a_ho a_hc uu_allows uu_permissions gg_pieceCount gg_depth gg_ends gg_behind gg_readersOf hh_pieceCount hh_depth hh_ends hh_behind hh_readersOf) (fun (o : Option Value) (w : va_W) => o = none ∧ w = w_Rule_fill (cI := cI) (cJ := cJ) (cC := cC) (cZ := cZ) (cR := cR) a_u a_g a_gb a_gr a_ge a_go a_gc a_h a_hb a_hr a_he a_ho a_hc o_uu_allows o_uu_permissions o_gg_pieceCount o_gg_depth o_gg_ends o_gg_behind o_gg_readersOf hh_pieceCount hh_depth hh_ends hh_behind hh_readersOf) := by
  refine GM.of (by decide) (Nat.le_of_ble_eq_true rfl) (lv := [(0, .ref a_u), (1, .ref a_h), (2, .int p2), (3, .int p3)]) rfl ?_
  intro X hX C
  subst hX
  refine k_aload_n C d_Rule_fill_0 rfl 0 rfl rfl ?_
  refine k_getf C d_Rule_fill_1 hin_Rule rfl 0 (by decide) mw76 0 rfl rfl rfl ?_
  refine k_aload_n C d_Rule_fill_4 rfl 1 rfl rfl ?_
  obtain ⟨⟨ygg_pieceCount_1, ygg_depth_2, ygg_ends_3, ygg_behind_4, ygg_readersOf_5⟩, hc6, h⟩ := bd h
  refine k_callVd (As := [.ref a_h]) (st := []) (st' := []) (wn := w_Rule_fill (cI := cI) (cJ := cJ) (cC := cC) (cZ := cZ) (cR := cR) a_u a_g a_gb a_gr a_ge a_go a_gc a_h a_hb a_hr a_he a_ho a_hc uu_allows uu_permissions ygg_pieceCount_1 ygg_depth_2 ygg_ends_3 ygg_behind_4 ygg_readersOf_5 hh_pieceCount hh_depth hh_ends hh_behind hh_readersOf) C d_Rule_fill_5 (c_Glob_copy fu a_g a_gb a_gr a_ge a_go a_gc a_h a_hb a_hr a_he a_ho a_hc gg_pieceCount gg_depth gg_ends gg_behind gg_readersOf hh_pieceCount hh_depth hh_ends hh_behind hh_readersOf ygg_pieceCount_1 ygg_depth_2 ygg_ends_3 ygg_behind_4 ygg_readersOf_5 hc6) co_Glob_copy cov_Glob_copy mw79 1 rfl rfl (by decide) (by decide) (Nat.le_of_ble_eq_true rfl) rfl [1, 2, 3, 4, 5, 6] [0] [0, 1, 2, 3, 4, 5, 6] rfl (by decide +kernel) rfl (by decide +kernel) (by decide +kernel) rfl (by decide +kernel) rfl rfl ?_
  refine k_aload_n C d_Rule_fill_8 rfl 0 rfl rfl ?_
  refine k_iload_n C d_Rule_fill_9 rfl 2 rfl rfl ?_
  have g7 := gd1 h
  replace h := gd2 h
  refine k_putf (ws' := w_Rule_fill (cI := cI) (cJ := cJ) (cC := cC) (cZ := cZ) (cR := cR) a_u a_g a_gb a_gr a_ge a_go a_gc a_h a_hb a_hr a_he a_ho a_hc p2 uu_permissions ygg_pieceCount_1 ygg_depth_2 ygg_ends_3 ygg_behind_4 ygg_readersOf_5 hh_pieceCount hh_depth hh_ends hh_behind hh_readersOf) C d_Rule_fill_10 hin_Rule hty_Rule hnn_Rule rfl 1 (by decide) mw77 rfl 0 rfl (nz_bool g7) (fz_bool g7) (Nat.le_of_ble_eq_true rfl) rfl rfl ?_
  refine k_aload_n C d_Rule_fill_13 rfl 0 rfl rfl ?_
  refine k_iload_n C d_Rule_fill_14 rfl 3 rfl rfl ?_
  refine k_putf (ws' := w_Rule_fill (cI := cI) (cJ := cJ) (cC := cC) (cZ := cZ) (cR := cR) a_u a_g a_gb a_gr a_ge a_go a_gc a_h a_hb a_hr a_he a_ho a_hc p2 p3 ygg_pieceCount_1 ygg_depth_2 ygg_ends_3 ygg_behind_4 ygg_readersOf_5 hh_pieceCount hh_depth hh_ends hh_behind hh_readersOf) C d_Rule_fill_15 hin_Rule hty_Rule hnn_Rule rfl 2 (by decide) mw78 rfl 0 rfl rfl rfl (Nat.le_of_ble_eq_true rfl) rfl rfl ?_
  exact k_vret C d_Rule_fill_18 (tr1 h (fun t => (fun (o : Option Value) (w : va_W) => o = none ∧ w = w_Rule_fill (cI := cI) (cJ := cJ) (cC := cC) (cZ := cZ) (cR := cR) a_u a_g a_gb a_gr a_ge a_go a_gc a_h a_hb a_hr a_he a_ho a_hc (t.1) (t.2.1) (t.2.2.1) (t.2.2.2.1) (t.2.2.2.2.1) (t.2.2.2.2.2.1) (t.2.2.2.2.2.2) hh_pieceCount hh_depth hh_ends hh_behind hh_readersOf) none (w_Rule_fill (cI := cI) (cJ := cJ) (cC := cC) (cZ := cZ) (cR := cR) a_u a_g a_gb a_gr a_ge a_go a_gc a_h a_hb a_hr a_he a_ho a_hc p2 p3 ygg_pieceCount_1 ygg_depth_2 ygg_ends_3 ygg_behind_4 ygg_readersOf_5 hh_pieceCount hh_depth hh_ends hh_behind hh_readersOf)) ⟨rfl, rfl⟩)
