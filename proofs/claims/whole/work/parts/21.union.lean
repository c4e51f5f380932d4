theorem d_Union_clear_0 : decode b_Union_clear 0 = .ok (.aload_n 0, 1) := by decide +kernel
theorem d_Union_clear_1 : decode b_Union_clear 1 = .ok (.getfield 9, 3) := by decide +kernel
theorem d_Union_clear_4 : decode b_Union_clear 4 = .ok (.lconst 0, 1) := by decide +kernel
theorem d_Union_clear_5 : decode b_Union_clear 5 = .ok (.invokestatic 34, 3) := by decide +kernel
theorem d_Union_clear_8 : decode b_Union_clear 8 = .ok (.aload_n 0, 1) := by decide +kernel
theorem d_Union_clear_9 : decode b_Union_clear 9 = .ok (.getfield 15, 3) := by decide +kernel
theorem d_Union_clear_12 : decode b_Union_clear 12 = .ok (.lconst 0, 1) := by decide +kernel
theorem d_Union_clear_13 : decode b_Union_clear 13 = .ok (.invokestatic 34, 3) := by decide +kernel
theorem d_Union_clear_16 : decode b_Union_clear 16 = .ok (.aload_n 0, 1) := by decide +kernel
theorem d_Union_clear_17 : decode b_Union_clear 17 = .ok (.iconst 0, 1) := by decide +kernel
theorem d_Union_clear_18 : decode b_Union_clear 18 = .ok (.putfield 40, 3) := by decide +kernel
theorem d_Union_clear_21 : decode b_Union_clear 21 = .ok (.aload_n 0, 1) := by decide +kernel
theorem d_Union_clear_22 : decode b_Union_clear 22 = .ok (.iconst 0, 1) := by decide +kernel
theorem d_Union_clear_23 : decode b_Union_clear 23 = .ok (.putfield 44, 3) := by decide +kernel
theorem d_Union_clear_26 : decode b_Union_clear 26 = .ok (.return_, 1) := by decide +kernel
abbrev w_Union_clear {cI cJ cC cZ cR : ClassId} (a_z a_zb a_zr a_zc a_zq a_ze a_za a_zd : Nat) (zz_pieceCount : Int32) (zz_ruleCount : Int32) (zz_columnCount : Int32) (zz_behind : Nat → Int64) (zz_readersOf : Nat → Int64) : va_W := [(a_z, .inr (4, [.ref a_zb, .ref a_zr, .ref a_zc, .ref a_zq, .ref a_ze, .ref a_za, .ref a_zd, .int zz_pieceCount, .int zz_ruleCount, .int zz_columnCount])), (a_zb, .inl (cJ, 61, .inr (.inl zz_behind))), (a_zr, .inl (cJ, 95, .inr (.inl zz_readersOf)))]
def f_Union_clear (fu : Nat) (zz_behind : Nat → Int64) (zz_readersOf : Nat → Int64) : Option (Int32 × Int32 × (Nat → Int64) × (Nat → Int64)) := (Option.bind (f_Arrays_fillJ fu 61 (0 : Int64) zz_behind) fun yv_fa_1 => (Option.bind (f_Arrays_fillJ fu 95 (0 : Int64) zz_readersOf) fun yv_fa_3 => some ((0 : Int32), (0 : Int32), yv_fa_1, yv_fa_3)))
set_option maxRecDepth 100000 in
set_option maxHeartbeats 4000000 in
theorem c_Union_clear {l : Launch} {D : va_G} {cI cJ cC cZ cR : ClassId} (fu : Nat) (a_z a_zb a_zr a_zc a_zq a_ze a_za a_zd : Nat)   (zz_pieceCount : Int32) (zz_ruleCount : Int32) (zz_columnCount : Int32) (zz_behind : Nat → Int64) (zz_readersOf : Nat → Int64)  (o_zz_pieceCount : Int32) (o_zz_ruleCount : Int32) (o_zz_behind : Nat → Int64) (o_zz_readersOf : Nat → Int64) (h : f_Union_clear fu zz_behind zz_readersOf = some (o_zz_pieceCount, o_zz_ruleCount, o_zz_behind, o_zz_readersOf)) : GM l D (tysL cI cJ cC cZ cR) y_Union_clear b_Union_clear 1 none { frames := 1, cells := 0, slots := 0, locals := 24 } [.ref a_z] (w_Union_clear (cI := cI) (cJ := cJ) (cC := cC) (cZ := cZ) (cR := cR) a_z a_zb a_zr a_zc a_zq a_ze a_za a_zd zz_pieceCount zz_ruleCount zz_columnCount zz_behind zz_readersOf) (fun (o : Option Value) (w : va_W) => o = none ∧ w = w_Union_clear (cI := cI) (cJ := cJ) (cC := cC) (cZ := cZ) (cR := cR) a_z a_zb a_zr a_zc a_zq a_ze a_za a_zd o_zz_pieceCount o_zz_ruleCount zz_columnCount o_zz_behind o_zz_readersOf) := by
  refine GM.of (by decide) (Nat.le_of_ble_eq_true rfl) (lv := [(0, .ref a_z)]) rfl ?_
  intro X hX C
  subst hX
  refine k_aload_n C d_Union_clear_0 rfl 0 rfl rfl ?_
  refine k_getf C d_Union_clear_1 hin_Union rfl 0 (by decide) mw104 0 rfl rfl rfl ?_
  refine k_lconst C d_Union_clear_4 (v := (0 : Int64)) (by decide) rfl ?_
  obtain ⟨yv_fa_1, hc2, h⟩ := bd h
  refine k_callSd (As := [.ref a_zb, .long (0 : Int64)]) (st := []) (st' := []) (wn := w_Union_clear (cI := cI) (cJ := cJ) (cC := cC) (cZ := cZ) (cR := cR) a_z a_zb a_zr a_zc a_zq a_ze a_za a_zd zz_pieceCount zz_ruleCount zz_columnCount yv_fa_1 zz_readersOf) C d_Union_clear_5 (c_Arrays_fillJ fu a_zb 61 zz_behind (0 : Int64) yv_fa_1 hc2) co_Arrays_fillJ cos_Arrays_fillJ mw108 (by decide) (by decide) (Nat.le_of_ble_eq_true rfl) rfl [1] [0, 2] [0, 2, 1] rfl (by decide +kernel) rfl (by decide +kernel) (by decide +kernel) rfl (by decide +kernel) rfl rfl ?_
  refine k_aload_n C d_Union_clear_8 rfl 0 rfl rfl ?_
  refine k_getf C d_Union_clear_9 hin_Union rfl 1 (by decide) mw105 0 rfl rfl rfl ?_
  refine k_lconst C d_Union_clear_12 (v := (0 : Int64)) (by decide) rfl ?_
  obtain ⟨yv_fa_3, hc4, h⟩ := bd h
  refine k_callSd (As := [.ref a_zr, .long (0 : Int64)]) (st := []) (st' := []) (wn := w_Union_clear (cI := cI) (cJ := cJ) (cC := cC) (cZ := cZ) (cR := cR) a_z a_zb a_zr a_zc a_zq a_ze a_za a_zd zz_pieceCount zz_ruleCount zz_columnCount yv_fa_1 yv_fa_3) C d_Union_clear_13 (c_Arrays_fillJ fu a_zr 95 zz_readersOf (0 : Int64) yv_fa_3 hc4) co_Arrays_fillJ cos_Arrays_fillJ mw108 (by decide) (by decide) (Nat.le_of_ble_eq_true rfl) rfl [2] [0, 1] [0, 1, 2] rfl (by decide +kernel) rfl (by decide +kernel) (by decide +kernel) rfl (by decide +kernel) rfl rfl ?_
  refine k_aload_n C d_Union_clear_16 rfl 0 rfl rfl ?_
  refine k_iconst C d_Union_clear_17 (v := (0 : Int32)) (by decide) rfl ?_
  refine k_putf (ws' := w_Union_clear (cI := cI) (cJ := cJ) (cC := cC) (cZ := cZ) (cR := cR) a_z a_zb a_zr a_zc a_zq a_ze a_za a_zd (0 : Int32) zz_ruleCount zz_columnCount yv_fa_1 yv_fa_3) C d_Union_clear_18 hin_Union hty_Union hnn_Union rfl 7 (by decide) mw106 rfl 0 rfl rfl rfl (Nat.le_of_ble_eq_true rfl) rfl rfl ?_
  refine k_aload_n C d_Union_clear_21 rfl 0 rfl rfl ?_
  refine k_iconst C d_Union_clear_22 (v := (0 : Int32)) (by decide) rfl ?_
  refine k_putf (ws' := w_Union_clear (cI := cI) (cJ := cJ) (cC := cC) (cZ := cZ) (cR := cR) a_z a_zb a_zr a_zc a_zq a_ze a_za a_zd (0 : Int32) (0 : Int32) zz_columnCount yv_fa_1 yv_fa_3) C d_Union_clear_23 hin_Union hty_Union hnn_Union rfl 8 (by decide) mw107 rfl 0 rfl rfl rfl (Nat.le_of_ble_eq_true rfl) rfl rfl ?_
  exact k_vret C d_Union_clear_26 (tr1 h (fun t => (fun (o : Option Value) (w : va_W) => o = none ∧ w = w_Union_clear (cI := cI) (cJ := cJ) (cC := cC) (cZ := cZ) (cR := cR) a_z a_zb a_zr a_zc a_zq a_ze a_za a_zd (t.1) (t.2.1) zz_columnCount (t.2.2.1) (t.2.2.2)) none (w_Union_clear (cI := cI) (cJ := cJ) (cC := cC) (cZ := cZ) (cR := cR) a_z a_zb a_zr a_zc a_zq a_ze a_za a_zd (0 : Int32) (0 : Int32) zz_columnCount yv_fa_1 yv_fa_3)) ⟨rfl, rfl⟩)
theorem d_Union_moved_0 : decode b_Union_moved 0 = .ok (.lload_n 1, 1) := by decide +kernel
theorem d_Union_moved_1 : decode b_Union_moved 1 = .ok (.lconst 1, 1) := by decide +kernel
theorem d_Union_moved_2 : decode b_Union_moved 2 = .ok (.land, 1) := by decide +kernel
theorem d_Union_moved_3 : decode b_Union_moved 3 = .ok (.lload_n 1, 1) := by decide +kernel
theorem d_Union_moved_4 : decode b_Union_moved 4 = .ok (.ldc2_w 73, 3) := by decide +kernel
theorem d_Union_moved_7 : decode b_Union_moved 7 = .ok (.land, 1) := by decide +kernel
theorem d_Union_moved_8 : decode b_Union_moved 8 = .ok (.aload_n 0, 1) := by decide +kernel
theorem d_Union_moved_9 : decode b_Union_moved 9 = .ok (.getfield 40, 3) := by decide +kernel
theorem d_Union_moved_12 : decode b_Union_moved 12 = .ok (.lshl, 1) := by decide +kernel
theorem d_Union_moved_13 : decode b_Union_moved 13 = .ok (.lor, 1) := by decide +kernel
theorem d_Union_moved_14 : decode b_Union_moved 14 = .ok (.lreturn, 1) := by decide +kernel
abbrev w_Union_moved {cI cJ cC cZ cR : ClassId} (a_z a_zb a_zr a_zc a_zq a_ze a_za a_zd : Nat) (zz_pieceCount : Int32) (zz_ruleCount : Int32) (zz_columnCount : Int32) : va_W := [(a_z, .inr (4, [.ref a_zb, .ref a_zr, .ref a_zc, .ref a_zq, .ref a_ze, .ref a_za, .ref a_zd, .int zz_pieceCount, .int zz_ruleCount, .int zz_columnCount]))]
def f_Union_moved (p1 : Int64) (zz_pieceCount : Int32) : Option (Int64) := some ((p1 &&& (1 : Int64)) ||| (jlshl (p1 &&& (-2 : Int64)) zz_pieceCount))
set_option maxRecDepth 100000 in
set_option maxHeartbeats 4000000 in
theorem c_Union_moved {l : Launch} {D : va_G} {cI cJ cC cZ cR : ClassId} (fu : Nat) (a_z a_zb a_zr a_zc a_zq a_ze a_za a_zd : Nat)   (zz_pieceCount : Int32) (zz_ruleCount : Int32) (zz_columnCount : Int32) (p1 : Int64) (o_r : Int64) (h : f_Union_moved p1 zz_pieceCount = some o_r) : GM l D (tysL cI cJ cC cZ cR) y_Union_moved b_Union_moved 3 (some (.long)) { frames := 0, cells := 0, slots := 0, locals := 0 } [.ref a_z, .long p1] (w_Union_moved (cI := cI) (cJ := cJ) (cC := cC) (cZ := cZ) (cR := cR) a_z a_zb a_zr a_zc a_zq a_ze a_za a_zd zz_pieceCount zz_ruleCount zz_columnCount) (fun (o : Option Value) (w : va_W) => o = some (.long o_r) ∧ w = w_Union_moved (cI := cI) (cJ := cJ) (cC := cC) (cZ := cZ) (cR := cR) a_z a_zb a_zr a_zc a_zq a_ze a_za a_zd zz_pieceCount zz_ruleCount zz_columnCount) := by
  refine GM.of (by decide) (Nat.le_of_ble_eq_true rfl) (lv := [(0, .ref a_z), (1, .long p1)]) rfl ?_
  intro X hX C
  subst hX
  refine k_lload_n C d_Union_moved_0 rfl 1 rfl rfl ?_
  refine k_lconst C d_Union_moved_1 (v := (1 : Int64)) (by decide) rfl ?_
  refine k_land C d_Union_moved_2 rfl ?_
  refine k_lload_n C d_Union_moved_3 rfl 1 rfl rfl ?_
  refine k_ldc2 C d_Union_moved_4 (v := (-2 : Int64)) mw109 rfl ?_
  refine k_land C d_Union_moved_7 rfl ?_
  refine k_aload_n C d_Union_moved_8 rfl 0 rfl rfl ?_
  refine k_getf C d_Union_moved_9 hin_Union rfl 7 (by decide) mw106 0 rfl rfl rfl ?_
  refine k_lshl C d_Union_moved_12 rfl ?_
  refine k_lor C d_Union_moved_13 rfl ?_
  exact k_lret C d_Union_moved_14 (tr1 h (fun t => (fun (o : Option Value) (w : va_W) => o = some (.long (t)) ∧ w = w_Union_moved (cI := cI) (cJ := cJ) (cC := cC) (cZ := cZ) (cR := cR) a_z a_zb a_zr a_zc a_zq a_ze a_za a_zd zz_pieceCount zz_ruleCount zz_columnCount) (some (Value.long ((p1 &&& (1 : Int64)) ||| (jlshl (p1 &&& (-2 : Int64)) zz_pieceCount)))) (w_Union_moved (cI := cI) (cJ := cJ) (cC := cC) (cZ := cZ) (cR := cR) a_z a_zb a_zr a_zc a_zq a_ze a_za a_zd zz_pieceCount zz_ruleCount zz_columnCount)) ⟨rfl, rfl⟩)
theorem d_Union_add_0 : decode b_Union_add 0 = .ok (.aload_n 1, 1) := by decide +kernel
theorem d_Union_add_1 : decode b_Union_add 1 = .ok (.ifnull 29, 3) := by decide +kernel
theorem d_Union_add_4 : decode b_Union_add 4 = .ok (.aload_n 0, 1) := by decide +kernel
theorem d_Union_add_5 : decode b_Union_add 5 = .ok (.getfield 44, 3) := by decide +kernel
theorem d_Union_add_8 : decode b_Union_add 8 = .ok (.bipush 6, 2) := by decide +kernel
theorem d_Union_add_10 : decode b_Union_add 10 = .ok (.if_icmp .ge 20, 3) := by decide +kernel
theorem d_Union_add_13 : decode b_Union_add 13 = .ok (.aload_n 0, 1) := by decide +kernel
theorem d_Union_add_14 : decode b_Union_add 14 = .ok (.getfield 40, 3) := by decide +kernel
theorem d_Union_add_17 : decode b_Union_add 17 = .ok (.aload_n 1, 1) := by decide +kernel
theorem d_Union_add_18 : decode b_Union_add 18 = .ok (.getfield 47, 3) := by decide +kernel
theorem d_Union_add_21 : decode b_Union_add 21 = .ok (.getfield 53, 3) := by decide +kernel
theorem d_Union_add_24 : decode b_Union_add 24 = .ok (.iadd, 1) := by decide +kernel
theorem d_Union_add_25 : decode b_Union_add 25 = .ok (.bipush 60, 2) := by decide +kernel
theorem d_Union_add_27 : decode b_Union_add 27 = .ok (.if_icmp .le 4, 3) := by decide +kernel
theorem d_Union_add_30 : decode b_Union_add 30 = .ok (.return_, 1) := by decide +kernel
theorem d_Union_add_31 : decode b_Union_add 31 = .ok (.aload_n 1, 1) := by decide +kernel
theorem d_Union_add_32 : decode b_Union_add 32 = .ok (.getfield 47, 3) := by decide +kernel
theorem d_Union_add_35 : decode b_Union_add 35 = .ok (.astore_n 2, 1) := by decide +kernel
theorem d_Union_add_36 : decode b_Union_add 36 = .ok (.aload_n 0, 1) := by decide +kernel
theorem d_Union_add_37 : decode b_Union_add 37 = .ok (.getfield 9, 3) := by decide +kernel
theorem d_Union_add_40 : decode b_Union_add 40 = .ok (.iconst 0, 1) := by decide +kernel
theorem d_Union_add_41 : decode b_Union_add 41 = .ok (.dup2, 1) := by decide +kernel
theorem d_Union_add_42 : decode b_Union_add 42 = .ok (.laload, 1) := by decide +kernel
theorem d_Union_add_43 : decode b_Union_add 43 = .ok (.aload_n 0, 1) := by decide +kernel
theorem d_Union_add_44 : decode b_Union_add 44 = .ok (.aload_n 2, 1) := by decide +kernel
theorem d_Union_add_45 : decode b_Union_add 45 = .ok (.getfield 56, 3) := by decide +kernel
theorem d_Union_add_48 : decode b_Union_add 48 = .ok (.iconst 0, 1) := by decide +kernel
theorem d_Union_add_49 : decode b_Union_add 49 = .ok (.laload, 1) := by decide +kernel
theorem d_Union_add_50 : decode b_Union_add 50 = .ok (.invokevirtual 57, 3) := by decide +kernel
theorem d_Union_add_53 : decode b_Union_add 53 = .ok (.lor, 1) := by decide +kernel
theorem d_Union_add_54 : decode b_Union_add 54 = .ok (.lastore, 1) := by decide +kernel
theorem d_Union_add_55 : decode b_Union_add 55 = .ok (.iconst 1, 1) := by decide +kernel
theorem d_Union_add_56 : decode b_Union_add 56 = .ok (.istore_n 3, 1) := by decide +kernel
theorem d_Union_add_57 : decode b_Union_add 57 = .ok (.iload_n 3, 1) := by decide +kernel
theorem d_Union_add_58 : decode b_Union_add 58 = .ok (.aload_n 2, 1) := by decide +kernel
theorem d_Union_add_59 : decode b_Union_add 59 = .ok (.getfield 53, 3) := by decide +kernel
theorem d_Union_add_62 : decode b_Union_add 62 = .ok (.if_icmp .gt 39, 3) := by decide +kernel
theorem d_Union_add_65 : decode b_Union_add 65 = .ok (.iload_n 3, 1) := by decide +kernel
theorem d_Union_add_66 : decode b_Union_add 66 = .ok (.aload_n 2, 1) := by decide +kernel
theorem d_Union_add_67 : decode b_Union_add 67 = .ok (.getfield 56, 3) := by decide +kernel
theorem d_Union_add_70 : decode b_Union_add 70 = .ok (.arraylength, 1) := by decide +kernel
theorem d_Union_add_71 : decode b_Union_add 71 = .ok (.if_icmp .ge 30, 3) := by decide +kernel
theorem d_Union_add_74 : decode b_Union_add 74 = .ok (.aload_n 0, 1) := by decide +kernel
theorem d_Union_add_75 : decode b_Union_add 75 = .ok (.getfield 9, 3) := by decide +kernel
theorem d_Union_add_78 : decode b_Union_add 78 = .ok (.aload_n 0, 1) := by decide +kernel
theorem d_Union_add_79 : decode b_Union_add 79 = .ok (.getfield 40, 3) := by decide +kernel
theorem d_Union_add_82 : decode b_Union_add 82 = .ok (.iload_n 3, 1) := by decide +kernel
theorem d_Union_add_83 : decode b_Union_add 83 = .ok (.iadd, 1) := by decide +kernel
theorem d_Union_add_84 : decode b_Union_add 84 = .ok (.aload_n 0, 1) := by decide +kernel
theorem d_Union_add_85 : decode b_Union_add 85 = .ok (.aload_n 2, 1) := by decide +kernel
theorem d_Union_add_86 : decode b_Union_add 86 = .ok (.getfield 56, 3) := by decide +kernel
theorem d_Union_add_89 : decode b_Union_add 89 = .ok (.iload_n 3, 1) := by decide +kernel
theorem d_Union_add_90 : decode b_Union_add 90 = .ok (.laload, 1) := by decide +kernel
theorem d_Union_add_91 : decode b_Union_add 91 = .ok (.invokevirtual 57, 3) := by decide +kernel
theorem d_Union_add_94 : decode b_Union_add 94 = .ok (.lastore, 1) := by decide +kernel
theorem d_Union_add_95 : decode b_Union_add 95 = .ok (.iinc 3 1, 3) := by decide +kernel
theorem d_Union_add_98 : decode b_Union_add 98 = .ok (.goto (-41), 3) := by decide +kernel
theorem d_Union_add_101 : decode b_Union_add 101 = .ok (.iconst 0, 1) := by decide +kernel
theorem d_Union_add_102 : decode b_Union_add 102 = .ok (.istore_n 3, 1) := by decide +kernel
theorem d_Union_add_103 : decode b_Union_add 103 = .ok (.iload_n 3, 1) := by decide +kernel
theorem d_Union_add_104 : decode b_Union_add 104 = .ok (.bipush 95, 2) := by decide +kernel
theorem d_Union_add_106 : decode b_Union_add 106 = .ok (.if_icmp .ge 28, 3) := by decide +kernel
theorem d_Union_add_109 : decode b_Union_add 109 = .ok (.aload_n 0, 1) := by decide +kernel
theorem d_Union_add_110 : decode b_Union_add 110 = .ok (.getfield 15, 3) := by decide +kernel
theorem d_Union_add_113 : decode b_Union_add 113 = .ok (.iload_n 3, 1) := by decide +kernel
theorem d_Union_add_114 : decode b_Union_add 114 = .ok (.dup2, 1) := by decide +kernel
theorem d_Union_add_115 : decode b_Union_add 115 = .ok (.laload, 1) := by decide +kernel
theorem d_Union_add_116 : decode b_Union_add 116 = .ok (.aload_n 0, 1) := by decide +kernel
theorem d_Union_add_117 : decode b_Union_add 117 = .ok (.aload_n 2, 1) := by decide +kernel
theorem d_Union_add_118 : decode b_Union_add 118 = .ok (.getfield 61, 3) := by decide +kernel
theorem d_Union_add_121 : decode b_Union_add 121 = .ok (.iload_n 3, 1) := by decide +kernel
theorem d_Union_add_122 : decode b_Union_add 122 = .ok (.laload, 1) := by decide +kernel
theorem d_Union_add_123 : decode b_Union_add 123 = .ok (.invokevirtual 57, 3) := by decide +kernel
theorem d_Union_add_126 : decode b_Union_add 126 = .ok (.lor, 1) := by decide +kernel
theorem d_Union_add_127 : decode b_Union_add 127 = .ok (.lastore, 1) := by decide +kernel
theorem d_Union_add_128 : decode b_Union_add 128 = .ok (.iinc 3 1, 3) := by decide +kernel
theorem d_Union_add_131 : decode b_Union_add 131 = .ok (.goto (-28), 3) := by decide +kernel
theorem d_Union_add_134 : decode b_Union_add 134 = .ok (.aload_n 0, 1) := by decide +kernel
theorem d_Union_add_135 : decode b_Union_add 135 = .ok (.getfield 25, 3) := by decide +kernel
theorem d_Union_add_138 : decode b_Union_add 138 = .ok (.aload_n 0, 1) := by decide +kernel
theorem d_Union_add_139 : decode b_Union_add 139 = .ok (.getfield 44, 3) := by decide +kernel
theorem d_Union_add_142 : decode b_Union_add 142 = .ok (.aload_n 0, 1) := by decide +kernel
theorem d_Union_add_143 : decode b_Union_add 143 = .ok (.aload_n 2, 1) := by decide +kernel
theorem d_Union_add_144 : decode b_Union_add 144 = .ok (.getfield 62, 3) := by decide +kernel
theorem d_Union_add_147 : decode b_Union_add 147 = .ok (.invokevirtual 57, 3) := by decide +kernel
theorem d_Union_add_150 : decode b_Union_add 150 = .ok (.lastore, 1) := by decide +kernel
theorem d_Union_add_151 : decode b_Union_add 151 = .ok (.aload_n 0, 1) := by decide +kernel
theorem d_Union_add_152 : decode b_Union_add 152 = .ok (.getfield 28, 3) := by decide +kernel
theorem d_Union_add_155 : decode b_Union_add 155 = .ok (.aload_n 0, 1) := by decide +kernel
theorem d_Union_add_156 : decode b_Union_add 156 = .ok (.getfield 44, 3) := by decide +kernel
theorem d_Union_add_159 : decode b_Union_add 159 = .ok (.aload_n 1, 1) := by decide +kernel
theorem d_Union_add_160 : decode b_Union_add 160 = .ok (.getfield 66, 3) := by decide +kernel
theorem d_Union_add_163 : decode b_Union_add 163 = .ok (.ifCond .eq 10, 3) := by decide +kernel
theorem d_Union_add_166 : decode b_Union_add 166 = .ok (.aload_n 1, 1) := by decide +kernel
theorem d_Union_add_167 : decode b_Union_add 167 = .ok (.getfield 70, 3) := by decide +kernel
theorem d_Union_add_170 : decode b_Union_add 170 = .ok (.goto 4, 3) := by decide +kernel
theorem d_Union_add_173 : decode b_Union_add 173 = .ok (.iconst 0, 1) := by decide +kernel
theorem d_Union_add_174 : decode b_Union_add 174 = .ok (.iastore, 1) := by decide +kernel
theorem d_Union_add_175 : decode b_Union_add 175 = .ok (.aload_n 0, 1) := by decide +kernel
theorem d_Union_add_176 : decode b_Union_add 176 = .ok (.getfield 31, 3) := by decide +kernel
theorem d_Union_add_179 : decode b_Union_add 179 = .ok (.aload_n 0, 1) := by decide +kernel
theorem d_Union_add_180 : decode b_Union_add 180 = .ok (.getfield 44, 3) := by decide +kernel
theorem d_Union_add_183 : decode b_Union_add 183 = .ok (.aload_n 1, 1) := by decide +kernel
theorem d_Union_add_184 : decode b_Union_add 184 = .ok (.getfield 66, 3) := by decide +kernel
theorem d_Union_add_187 : decode b_Union_add 187 = .ok (.ifCond .eq 7, 3) := by decide +kernel
theorem d_Union_add_190 : decode b_Union_add 190 = .ok (.iconst 0, 1) := by decide +kernel
theorem d_Union_add_191 : decode b_Union_add 191 = .ok (.goto 7, 3) := by decide +kernel
theorem d_Union_add_194 : decode b_Union_add 194 = .ok (.aload_n 1, 1) := by decide +kernel
theorem d_Union_add_195 : decode b_Union_add 195 = .ok (.getfield 70, 3) := by decide +kernel
theorem d_Union_add_198 : decode b_Union_add 198 = .ok (.iastore, 1) := by decide +kernel
theorem d_Union_add_199 : decode b_Union_add 199 = .ok (.aload_n 0, 1) := by decide +kernel
theorem d_Union_add_200 : decode b_Union_add 200 = .ok (.dup, 1) := by decide +kernel
theorem d_Union_add_201 : decode b_Union_add 201 = .ok (.getfield 44, 3) := by decide +kernel
theorem d_Union_add_204 : decode b_Union_add 204 = .ok (.iconst 1, 1) := by decide +kernel
theorem d_Union_add_205 : decode b_Union_add 205 = .ok (.iadd, 1) := by decide +kernel
theorem d_Union_add_206 : decode b_Union_add 206 = .ok (.putfield 44, 3) := by decide +kernel
theorem d_Union_add_209 : decode b_Union_add 209 = .ok (.aload_n 0, 1) := by decide +kernel
theorem d_Union_add_210 : decode b_Union_add 210 = .ok (.dup, 1) := by decide +kernel
theorem d_Union_add_211 : decode b_Union_add 211 = .ok (.getfield 40, 3) := by decide +kernel
theorem d_Union_add_214 : decode b_Union_add 214 = .ok (.aload_n 2, 1) := by decide +kernel
theorem d_Union_add_215 : decode b_Union_add 215 = .ok (.getfield 53, 3) := by decide +kernel
theorem d_Union_add_218 : decode b_Union_add 218 = .ok (.iadd, 1) := by decide +kernel
theorem d_Union_add_219 : decode b_Union_add 219 = .ok (.putfield 40, 3) := by decide +kernel
theorem d_Union_add_222 : decode b_Union_add 222 = .ok (.return_, 1) := by decide +kernel
abbrev w_Union_add {cI cJ cC cZ cR : ClassId} (a_z a_zb a_zr a_zc a_zq a_ze a_za a_zd a_u a_g a_gb a_gr a_ge a_go a_gc : Nat) (zz_pieceCount : Int32) (zz_ruleCount : Int32) (zz_columnCount : Int32) (zz_behind : Nat → Int64) (zz_readersOf : Nat → Int64) (zz_endsOf : Nat → Int64) (zz_allowedBy : Nat → Int32) (zz_deniedBy : Nat → Int32) (uu_allows : Int32) (uu_permissions : Int32) (gg_pieceCount : Int32) (gg_depth : Int32) (gg_ends : Int64) (gg_behind : Nat → Int64) (gg_readersOf : Nat → Int64) : va_W := [(a_z, .inr (4, [.ref a_zb, .ref a_zr, .ref a_zc, .ref a_zq, .ref a_ze, .ref a_za, .ref a_zd, .int zz_pieceCount, .int zz_ruleCount, .int zz_columnCount])), (a_zb, .inl (cJ, 61, .inr (.inl zz_behind))), (a_zr, .inl (cJ, 95, .inr (.inl zz_readersOf))), (a_ze, .inl (cJ, 6, .inr (.inl zz_endsOf))), (a_za, .inl (cI, 6, .inl zz_allowedBy)), (a_zd, .inl (cI, 6, .inl zz_deniedBy)), (a_u, .inr (3, [.ref a_g, .int uu_allows, .int uu_permissions])), (a_g, .inr (2, [.ref a_gb, .ref a_gr, .ref a_ge, .ref a_go, .ref a_gc, .int gg_pieceCount, .int gg_depth, .long gg_ends])), (a_gb, .inl (cJ, 41, .inr (.inl gg_behind))), (a_gr, .inl (cJ, 95, .inr (.inl gg_readersOf)))]
def f_Union_add_J198 (gg_pieceCount : Int32) (s1_j198 : Int32) (s2_j198 : Int32) (zz_pieceCount_j198 : Int32) (zz_ruleCount_j198 : Int32) (zz_behind_j198 : Nat → Int64) (zz_readersOf_j198 : Nat → Int64) (zz_endsOf_j198 : Nat → Int64) (zz_allowedBy_j198 : Nat → Int32) (zz_deniedBy_j198 : Nat → Int32) : Option (Int32 × Int32 × (Nat → Int64) × (Nat → Int64) × (Nat → Int64) × (Nat → Int32) × (Nat → Int32)) := (if inB s1_j198 6 = true then some ((zz_pieceCount_j198 + gg_pieceCount), (zz_ruleCount_j198 + (1 : Int32)), zz_behind_j198, zz_readersOf_j198, zz_endsOf_j198, zz_allowedBy_j198, (upd zz_deniedBy_j198 s1_j198.toNatClampNeg s2_j198)) else none)
def f_Union_add_J174 (uu_allows : Int32) (uu_permissions : Int32) (gg_pieceCount : Int32) (s1_j174 : Int32) (s2_j174 : Int32) (zz_pieceCount_j174 : Int32) (zz_ruleCount_j174 : Int32) (zz_behind_j174 : Nat → Int64) (zz_readersOf_j174 : Nat → Int64) (zz_endsOf_j174 : Nat → Int64) (zz_allowedBy_j174 : Nat → Int32) (zz_deniedBy_j174 : Nat → Int32) : Option (Int32 × Int32 × (Nat → Int64) × (Nat → Int64) × (Nat → Int64) × (Nat → Int32) × (Nat → Int32)) := (if inB s1_j174 6 = true then (if uu_allows = 0 then (f_Union_add_J198 gg_pieceCount zz_ruleCount_j174 uu_permissions zz_pieceCount_j174 zz_ruleCount_j174 zz_behind_j174 zz_readersOf_j174 zz_endsOf_j174 (upd zz_allowedBy_j174 s1_j174.toNatClampNeg s2_j174) zz_deniedBy_j174) else (f_Union_add_J198 gg_pieceCount zz_ruleCount_j174 (0 : Int32) zz_pieceCount_j174 zz_ruleCount_j174 zz_behind_j174 zz_readersOf_j174 zz_endsOf_j174 (upd zz_allowedBy_j174 s1_j174.toNatClampNeg s2_j174) zz_deniedBy_j174)) else none)
def f_Union_add_L103 (gg_readersOf : Nat → Int64) (zz_pieceCount_j101 : Int32) (kk103_0 : Int32 → (Nat → Int64) → Option (Int32 × Int32 × (Nat → Int64) × (Nat → Int64) × (Nat → Int64) × (Nat → Int32) × (Nat → Int32))) : Nat → Int32 → (Nat → Int64) → Option (Int32 × Int32 × (Nat → Int64) × (Nat → Int64) × (Nat → Int64) × (Nat → Int32) × (Nat → Int32))
  | 0, _, _ => none
  | n_103 + 1, l3_103, zz_readersOf_103 => (if (95 : Int32) ≤ l3_103 then (kk103_0 l3_103 zz_readersOf_103) else (if inB l3_103 95 = true then (if inB l3_103 95 = true then (Option.bind (f_Union_moved (gg_readersOf l3_103.toNatClampNeg) zz_pieceCount_j101) fun r7 => (if inB l3_103 95 = true then ((fun l3_103 zz_readersOf_103 => f_Union_add_L103 gg_readersOf zz_pieceCount_j101 kk103_0 n_103 l3_103 zz_readersOf_103) (l3_103 + 1) (vp_updL zz_readersOf_103 l3_103.toNatClampNeg ((zz_readersOf_103 l3_103.toNatClampNeg) ||| r7))) else none)) else none) else none))
theorem f_Union_add_L103_s (gg_readersOf : Nat → Int64) (zz_pieceCount_j101 : Int32) (kk103_0 : Int32 → (Nat → Int64) → Option (Int32 × Int32 × (Nat → Int64) × (Nat → Int64) × (Nat → Int64) × (Nat → Int32) × (Nat → Int32))) (n_103 : Nat) (l3_103 : Int32) (zz_readersOf_103 : Nat → Int64) : f_Union_add_L103 gg_readersOf zz_pieceCount_j101 kk103_0 (n_103 + 1) l3_103 zz_readersOf_103 = (if (95 : Int32) ≤ l3_103 then (kk103_0 l3_103 zz_readersOf_103) else (if inB l3_103 95 = true then (if inB l3_103 95 = true then (Option.bind (f_Union_moved (gg_readersOf l3_103.toNatClampNeg) zz_pieceCount_j101) fun r7 => (if inB l3_103 95 = true then ((fun l3_103 zz_readersOf_103 => f_Union_add_L103 gg_readersOf zz_pieceCount_j101 kk103_0 n_103 l3_103 zz_readersOf_103) (l3_103 + 1) (vp_updL zz_readersOf_103 l3_103.toNatClampNeg ((zz_readersOf_103 l3_103.toNatClampNeg) ||| r7))) else none)) else none) else none)) := rfl
def f_Union_add_J101 (uu_allows : Int32) (uu_permissions : Int32) (gg_pieceCount : Int32) (gg_ends : Int64) (gg_readersOf : Nat → Int64) (fu : Nat) (zz_pieceCount_j101 : Int32) (zz_ruleCount_j101 : Int32) (zz_behind_j101 : Nat → Int64) (zz_readersOf_j101 : Nat → Int64) (zz_endsOf_j101 : Nat → Int64) (zz_allowedBy_j101 : Nat → Int32) (zz_deniedBy_j101 : Nat → Int32) : Option (Int32 × Int32 × (Nat → Int64) × (Nat → Int64) × (Nat → Int64) × (Nat → Int32) × (Nat → Int32)) := (f_Union_add_L103 gg_readersOf zz_pieceCount_j101 (fun l3_103 zz_readersOf_103 => (Option.bind (f_Union_moved gg_ends zz_pieceCount_j101) fun r10 => (if inB zz_ruleCount_j101 6 = true then (if uu_allows = 0 then (f_Union_add_J174 uu_allows uu_permissions gg_pieceCount zz_ruleCount_j101 (0 : Int32) zz_pieceCount_j101 zz_ruleCount_j101 zz_behind_j101 zz_readersOf_103 (vp_updL zz_endsOf_j101 zz_ruleCount_j101.toNatClampNeg r10) zz_allowedBy_j101 zz_deniedBy_j101) else (f_Union_add_J174 uu_allows uu_permissions gg_pieceCount zz_ruleCount_j101 uu_permissions zz_pieceCount_j101 zz_ruleCount_j101 zz_behind_j101 zz_readersOf_103 (vp_updL zz_endsOf_j101 zz_ruleCount_j101.toNatClampNeg r10) zz_allowedBy_j101 zz_deniedBy_j101)) else none))) fu (0 : Int32) zz_readersOf_j101)
def f_Union_add_L57 (zz_pieceCount : Int32) (gg_pieceCount : Int32) (gg_behind : Nat → Int64) (kk57_0 : Int32 → (Nat → Int64) → Option (Int32 × Int32 × (Nat → Int64) × (Nat → Int64) × (Nat → Int64) × (Nat → Int32) × (Nat → Int32))) : Nat → Int32 → (Nat → Int64) → Option (Int32 × Int32 × (Nat → Int64) × (Nat → Int64) × (Nat → Int64) × (Nat → Int32) × (Nat → Int32))
  | 0, _, _ => none
  | n_57 + 1, l3_57, zz_behind_57 => (if gg_pieceCount < l3_57 then (kk57_0 l3_57 zz_behind_57) else (if (41 : Int32) ≤ l3_57 then (kk57_0 l3_57 zz_behind_57) else (if inB l3_57 41 = true then (Option.bind (f_Union_moved (gg_behind l3_57.toNatClampNeg) zz_pieceCount) fun r24 => (if inB (zz_pieceCount + l3_57) 61 = true then (f_Union_add_L57 zz_pieceCount gg_pieceCount gg_behind kk57_0 n_57 (l3_57 + 1) (vp_updL zz_behind_57 (zz_pieceCount + l3_57).toNatClampNeg r24)) else none)) else none)))
theorem f_Union_add_L57_s (zz_pieceCount : Int32) (gg_pieceCount : Int32) (gg_behind : Nat → Int64) (kk57_0 : Int32 → (Nat → Int64) → Option (Int32 × Int32 × (Nat → Int64) × (Nat → Int64) × (Nat → Int64) × (Nat → Int32) × (Nat → Int32))) (n_57 : Nat) (l3_57 : Int32) (zz_behind_57 : Nat → Int64) : f_Union_add_L57 zz_pieceCount gg_pieceCount gg_behind kk57_0 (n_57 + 1) l3_57 zz_behind_57 = (if gg_pieceCount < l3_57 then (kk57_0 l3_57 zz_behind_57) else (if (41 : Int32) ≤ l3_57 then (kk57_0 l3_57 zz_behind_57) else (if inB l3_57 41 = true then (Option.bind (f_Union_moved (gg_behind l3_57.toNatClampNeg) zz_pieceCount) fun r24 => (if inB (zz_pieceCount + l3_57) 61 = true then (f_Union_add_L57 zz_pieceCount gg_pieceCount gg_behind kk57_0 n_57 (l3_57 + 1) (vp_updL zz_behind_57 (zz_pieceCount + l3_57).toNatClampNeg r24)) else none)) else none))) := rfl
def f_Union_add (fu : Nat) (zz_pieceCount : Int32) (zz_ruleCount : Int32) (zz_behind : Nat → Int64) (zz_readersOf : Nat → Int64) (zz_endsOf : Nat → Int64) (zz_allowedBy : Nat → Int32) (zz_deniedBy : Nat → Int32) (uu_allows : Int32) (uu_permissions : Int32) (gg_pieceCount : Int32) (gg_ends : Int64) (gg_behind : Nat → Int64) (gg_readersOf : Nat → Int64) : Option (Int32 × Int32 × (Nat → Int64) × (Nat → Int64) × (Nat → Int64) × (Nat → Int32) × (Nat → Int32)) := (if (6 : Int32) ≤ zz_ruleCount then some (zz_pieceCount, zz_ruleCount, zz_behind, zz_readersOf, zz_endsOf, zz_allowedBy, zz_deniedBy) else (if (zz_pieceCount + gg_pieceCount) ≤ (60 : Int32) then (if inB (0 : Int32) 61 = true then (if inB (0 : Int32) 41 = true then (Option.bind (f_Union_moved (gg_behind (0 : Int32).toNatClampNeg) zz_pieceCount) fun r18 => (if inB (0 : Int32) 61 = true then (f_Union_add_L57 zz_pieceCount gg_pieceCount gg_behind (fun l3_57 zz_behind_57 => (f_Union_add_J101 uu_allows uu_permissions gg_pieceCount gg_ends gg_readersOf fu zz_pieceCount zz_ruleCount zz_behind_57 zz_readersOf zz_endsOf zz_allowedBy zz_deniedBy)) fu (1 : Int32) (vp_updL zz_behind (0 : Int32).toNatClampNeg ((zz_behind (0 : Int32).toNatClampNeg) ||| r18))) else none)) else none) else none) else some (zz_pieceCount, zz_ruleCount, zz_behind, zz_readersOf, zz_endsOf, zz_allowedBy, zz_deniedBy)))
set_option maxRecDepth 100000 in
set_option maxHeartbeats 4000000 in
theorem c_Union_add {l : Launch} {D : va_G} {cI cJ cC cZ cR : ClassId} (fu : Nat) (a_z a_zb a_zr a_zc a_zq a_ze a_za a_zd a_u a_g a_gb a_gr a_ge a_go a_gc : Nat)   (zz_pieceCount : Int32) (zz_ruleCount : Int32) (zz_columnCount : Int32) (zz_behind : Nat → Int64) (zz_readersOf : Nat → Int64) (zz_endsOf : Nat → Int64) (zz_allowedBy : Nat → Int32) (zz_deniedBy : Nat → Int32) (uu_allows : Int32) (uu_permissions : Int32) (gg_pieceCount : Int32) (gg_depth : Int32) (gg_ends : Int64) (gg_behind : Nat → Int64) (gg_readersOf : Nat → Int64)  (o_zz_pieceCount : Int32) (o_zz_ruleCount : Int32) (o_zz_behind : Nat → Int64) (o_zz_readersOf : Nat → Int64) (o_zz_endsOf : Nat → Int64) (o_zz_allowedBy : Nat → Int32) (o_zz_deniedBy : Nat → Int32) (h : f_Union_add fu zz_pieceCount zz_ruleCount zz_behind zz_readersOf zz_endsOf zz_allowedBy zz_deniedBy uu_allows uu_permissions gg_pieceCount gg_ends gg_behind gg_readersOf = some (o_zz_pieceCount, o_zz_ruleCount, o_zz_behind, o_zz_readersOf, o_zz_endsOf, o_zz_allowedBy, o_zz_deniedBy)) : GM l D (tysL cI cJ cC cZ cR) y_Union_add b_Union_add 4 none { frames := 1, cells := 0, slots := 0, locals := 22 } [.ref a_z, .ref a_u] (w_Union_add (cI := cI) (cJ := cJ) (cC := cC) (cZ := cZ) (cR := cR) a_z a_zb a_zr a_zc a_zq a_ze a_za a_zd a_u a_g a_gb a_gr a_ge a_go a_gc zz_pieceCount zz_ruleCount zz_columnCount zz_behind zz_readersOf zz_endsOf zz_allowedBy zz_deniedBy uu_allows uu_permissions gg_pieceCount gg_depth gg_ends gg_behind gg_readersOf) (fun (o : Option Value) (w : va_W) => o = none ∧ w = w_Union_add (cI := cI) (cJ := cJ) (cC := cC) (cZ := cZ) (cR := cR) a_z a_zb a_zr a_zc a_zq a_ze a_za a_zd a_u a_g a_gb a_gr a_ge a_go a_gc o_zz_pieceCount o_zz_ruleCount zz_columnCount o_zz_behind o_zz_readersOf o_zz_endsOf o_zz_allowedBy o_zz_deniedBy uu_allows uu_permissions gg_pieceCount gg_depth gg_ends gg_behind gg_readersOf) := by
  refine GM.of (by decide) (Nat.le_of_ble_eq_true rfl) (lv := [(0, .ref a_z), (1, .ref a_u)]) rfl ?_
  intro X hX C
  subst hX
  have J198 : ∀ (l3_j198 : Int32) (s1_j198 : Int32) (s2_j198 : Int32) (zz_pieceCount_j198 : Int32) (zz_ruleCount_j198 : Int32) (zz_behind_j198 : Nat → Int64) (zz_readersOf_j198 : Nat → Int64) (zz_endsOf_j198 : Nat → Int64) (zz_allowedBy_j198 : Nat → Int32) (zz_deniedBy_j198 : Nat → Int32), f_Union_add_J198 gg_pieceCount s1_j198 s2_j198 zz_pieceCount_j198 zz_ruleCount_j198 zz_behind_j198 zz_readersOf_j198 zz_endsOf_j198 zz_allowedBy_j198 zz_deniedBy_j198 = some (o_zz_pieceCount, o_zz_ruleCount, o_zz_behind, o_zz_readersOf, o_zz_endsOf, o_zz_allowedBy, o_zz_deniedBy) → Wk X { frames := 1, cells := 0, slots := 0, locals := 22 } 4 D (va_A (w_Union_add (cI := cI) (cJ := cJ) (cC := cC) (cZ := cZ) (cR := cR) a_z a_zb a_zr a_zc a_zq a_ze a_za a_zd a_u a_g a_gb a_gr a_ge a_go a_gc zz_pieceCount zz_ruleCount zz_columnCount zz_behind zz_readersOf zz_endsOf zz_allowedBy zz_deniedBy uu_allows uu_permissions gg_pieceCount gg_depth gg_ends gg_behind gg_readersOf) (xs X).heap.size) 0 0 (GE X D (w_Union_add (cI := cI) (cJ := cJ) (cC := cC) (cZ := cZ) (cR := cR) a_z a_zb a_zr a_zc a_zq a_ze a_za a_zd a_u a_g a_gb a_gr a_ge a_go a_gc zz_pieceCount zz_ruleCount zz_columnCount zz_behind zz_readersOf zz_endsOf zz_allowedBy zz_deniedBy uu_allows uu_permissions gg_pieceCount gg_depth gg_ends gg_behind gg_readersOf) (fun (o : Option Value) (w : va_W) => o = none ∧ w = w_Union_add (cI := cI) (cJ := cJ) (cC := cC) (cZ := cZ) (cR := cR) a_z a_zb a_zr a_zc a_zq a_ze a_za a_zd a_u a_g a_gb a_gr a_ge a_go a_gc o_zz_pieceCount o_zz_ruleCount zz_columnCount o_zz_behind o_zz_readersOf o_zz_endsOf o_zz_allowedBy o_zz_deniedBy uu_allows uu_permissions gg_pieceCount gg_depth gg_ends gg_behind gg_readersOf) 0 0) (w_Union_add (cI := cI) (cJ := cJ) (cC := cC) (cZ := cZ) (cR := cR) a_z a_zb a_zr a_zc a_zq a_ze a_za a_zd a_u a_g a_gb a_gr a_ge a_go a_gc zz_pieceCount_j198 zz_ruleCount_j198 zz_columnCount zz_behind_j198 zz_readersOf_j198 zz_endsOf_j198 zz_allowedBy_j198 zz_deniedBy_j198 uu_allows uu_permissions gg_pieceCount gg_depth gg_ends gg_behind gg_readersOf) [(3, .int l3_j198), (2, .ref a_g), (0, .ref a_z), (1, .ref a_u)] [.int s2_j198, .int s1_j198, .ref a_zd] 198 := by
    intro l3_j198 s1_j198 s2_j198 zz_pieceCount_j198 zz_ruleCount_j198 zz_behind_j198 zz_readersOf_j198 zz_endsOf_j198 zz_allowedBy_j198 zz_deniedBy_j198 h
    have g1 := gd1 h
    replace h := gd2 h
    refine k_iast (ws' := w_Union_add (cI := cI) (cJ := cJ) (cC := cC) (cZ := cZ) (cR := cR) a_z a_zb a_zr a_zc a_zq a_ze a_za a_zd a_u a_g a_gb a_gr a_ge a_go a_gc zz_pieceCount_j198 zz_ruleCount_j198 zz_columnCount zz_behind_j198 zz_readersOf_j198 zz_endsOf_j198 zz_allowedBy_j198 (upd zz_deniedBy_j198 s1_j198.toNatClampNeg s2_j198) uu_allows uu_permissions gg_pieceCount gg_depth gg_ends gg_behind gg_readersOf) C d_Union_add_198 5 0 rfl rfl (inB_in g1) rfl rfl ?_
    refine k_aload_n C d_Union_add_199 rfl 2 rfl rfl ?_
    refine k_dup C d_Union_add_200 rfl rfl ?_
    refine k_getf C d_Union_add_201 hin_Union rfl 8 (by decide) mw107 0 rfl rfl rfl ?_
    refine k_iconst C d_Union_add_204 (v := (1 : Int32)) (by decide) rfl ?_
    refine k_iadd C d_Union_add_205 rfl ?_
    refine k_putf (ws' := w_Union_add (cI := cI) (cJ := cJ) (cC := cC) (cZ := cZ) (cR := cR) a_z a_zb a_zr a_zc a_zq a_ze a_za a_zd a_u a_g a_gb a_gr a_ge a_go a_gc zz_pieceCount_j198 (zz_ruleCount_j198 + (1 : Int32)) zz_columnCount zz_behind_j198 zz_readersOf_j198 zz_endsOf_j198 zz_allowedBy_j198 (upd zz_deniedBy_j198 s1_j198.toNatClampNeg s2_j198) uu_allows uu_permissions gg_pieceCount gg_depth gg_ends gg_behind gg_readersOf) C d_Union_add_206 hin_Union hty_Union hnn_Union rfl 8 (by decide) mw107 rfl 0 rfl rfl rfl (Nat.le_of_ble_eq_true rfl) rfl rfl ?_
    refine k_aload_n C d_Union_add_209 rfl 2 rfl rfl ?_
    refine k_dup C d_Union_add_210 rfl rfl ?_
    refine k_getf C d_Union_add_211 hin_Union rfl 7 (by decide) mw106 0 rfl rfl rfl ?_
    refine k_aload_n C d_Union_add_214 rfl 1 rfl rfl ?_
    refine k_getN C d_Union_add_215 hin_Glob rfl 5 (by decide) mw111 7 rfl rfl rfl ?_
    refine k_iadd C d_Union_add_218 rfl ?_
    refine k_putf (ws' := w_Union_add (cI := cI) (cJ := cJ) (cC := cC) (cZ := cZ) (cR := cR) a_z a_zb a_zr a_zc a_zq a_ze a_za a_zd a_u a_g a_gb a_gr a_ge a_go a_gc (zz_pieceCount_j198 + gg_pieceCount) (zz_ruleCount_j198 + (1 : Int32)) zz_columnCount zz_behind_j198 zz_readersOf_j198 zz_endsOf_j198 zz_allowedBy_j198 (upd zz_deniedBy_j198 s1_j198.toNatClampNeg s2_j198) uu_allows uu_permissions gg_pieceCount gg_depth gg_ends gg_behind gg_readersOf) C d_Union_add_219 hin_Union hty_Union hnn_Union rfl 7 (by decide) mw106 rfl 0 rfl rfl rfl (Nat.le_of_ble_eq_true rfl) rfl rfl ?_
    exact k_vret C d_Union_add_222 (tr1 h (fun t => (fun (o : Option Value) (w : va_W) => o = none ∧ w = w_Union_add (cI := cI) (cJ := cJ) (cC := cC) (cZ := cZ) (cR := cR) a_z a_zb a_zr a_zc a_zq a_ze a_za a_zd a_u a_g a_gb a_gr a_ge a_go a_gc (t.1) (t.2.1) zz_columnCount (t.2.2.1) (t.2.2.2.1) (t.2.2.2.2.1) (t.2.2.2.2.2.1) (t.2.2.2.2.2.2) uu_allows uu_permissions gg_pieceCount gg_depth gg_ends gg_behind gg_readersOf) none (w_Union_add (cI := cI) (cJ := cJ) (cC := cC) (cZ := cZ) (cR := cR) a_z a_zb a_zr a_zc a_zq a_ze a_za a_zd a_u a_g a_gb a_gr a_ge a_go a_gc (zz_pieceCount_j198 + gg_pieceCount) (zz_ruleCount_j198 + (1 : Int32)) zz_columnCount zz_behind_j198 zz_readersOf_j198 zz_endsOf_j198 zz_allowedBy_j198 (upd zz_deniedBy_j198 s1_j198.toNatClampNeg s2_j198) uu_allows uu_permissions gg_pieceCount gg_depth gg_ends gg_behind gg_readersOf)) ⟨rfl, rfl⟩)
  have J174 : ∀ (l3_j174 : Int32) (s1_j174 : Int32) (s2_j174 : Int32) (zz_pieceCount_j174 : Int32) (zz_ruleCount_j174 : Int32) (zz_behind_j174 : Nat → Int64) (zz_readersOf_j174 : Nat → Int64) (zz_endsOf_j174 : Nat → Int64) (zz_allowedBy_j174 : Nat → Int32) (zz_deniedBy_j174 : Nat → Int32), f_Union_add_J174 uu_allows uu_permissions gg_pieceCount s1_j174 s2_j174 zz_pieceCount_j174 zz_ruleCount_j174 zz_behind_j174 zz_readersOf_j174 zz_endsOf_j174 zz_allowedBy_j174 zz_deniedBy_j174 = some (o_zz_pieceCount, o_zz_ruleCount, o_zz_behind, o_zz_readersOf, o_zz_endsOf, o_zz_allowedBy, o_zz_deniedBy) → Wk X { frames := 1, cells := 0, slots := 0, locals := 22 } 4 D (va_A (w_Union_add (cI := cI) (cJ := cJ) (cC := cC) (cZ := cZ) (cR := cR) a_z a_zb a_zr a_zc a_zq a_ze a_za a_zd a_u a_g a_gb a_gr a_ge a_go a_gc zz_pieceCount zz_ruleCount zz_columnCount zz_behind zz_readersOf zz_endsOf zz_allowedBy zz_deniedBy uu_allows uu_permissions gg_pieceCount gg_depth gg_ends gg_behind gg_readersOf) (xs X).heap.size) 0 0 (GE X D (w_Union_add (cI := cI) (cJ := cJ) (cC := cC) (cZ := cZ) (cR := cR) a_z a_zb a_zr a_zc a_zq a_ze a_za a_zd a_u a_g a_gb a_gr a_ge a_go a_gc zz_pieceCount zz_ruleCount zz_columnCount zz_behind zz_readersOf zz_endsOf zz_allowedBy zz_deniedBy uu_allows uu_permissions gg_pieceCount gg_depth gg_ends gg_behind gg_readersOf) (fun (o : Option Value) (w : va_W) => o = none ∧ w = w_Union_add (cI := cI) (cJ := cJ) (cC := cC) (cZ := cZ) (cR := cR) a_z a_zb a_zr a_zc a_zq a_ze a_za a_zd a_u a_g a_gb a_gr a_ge a_go a_gc o_zz_pieceCount o_zz_ruleCount zz_columnCount o_zz_behind o_zz_readersOf o_zz_endsOf o_zz_allowedBy o_zz_deniedBy uu_allows uu_permissions gg_pieceCount gg_depth gg_ends gg_behind gg_readersOf) 0 0) (w_Union_add (cI := cI) (cJ := cJ) (cC := cC) (cZ := cZ) (cR := cR) a_z a_zb a_zr a_zc a_zq a_ze a_za a_zd a_u a_g a_gb a_gr a_ge a_go a_gc zz_pieceCount_j174 zz_ruleCount_j174 zz_columnCount zz_behind_j174 zz_readersOf_j174 zz_endsOf_j174 zz_allowedBy_j174 zz_deniedBy_j174 uu_allows uu_permissions gg_pieceCount gg_depth gg_ends gg_behind gg_readersOf) [(3, .int l3_j174), (2, .ref a_g), (0, .ref a_z), (1, .ref a_u)] [.int s2_j174, .int s1_j174, .ref a_za] 174 := by
    intro l3_j174 s1_j174 s2_j174 zz_pieceCount_j174 zz_ruleCount_j174 zz_behind_j174 zz_readersOf_j174 zz_endsOf_j174 zz_allowedBy_j174 zz_deniedBy_j174 h
    have g2 := gd1 h
    replace h := gd2 h
    refine k_iast (ws' := w_Union_add (cI := cI) (cJ := cJ) (cC := cC) (cZ := cZ) (cR := cR) a_z a_zb a_zr a_zc a_zq a_ze a_za a_zd a_u a_g a_gb a_gr a_ge a_go a_gc zz_pieceCount_j174 zz_ruleCount_j174 zz_columnCount zz_behind_j174 zz_readersOf_j174 zz_endsOf_j174 (upd zz_allowedBy_j174 s1_j174.toNatClampNeg s2_j174) zz_deniedBy_j174 uu_allows uu_permissions gg_pieceCount gg_depth gg_ends gg_behind gg_readersOf) C d_Union_add_174 4 0 rfl rfl (inB_in g2) rfl rfl ?_
    refine k_aload_n C d_Union_add_175 rfl 2 rfl rfl ?_
    refine k_getf C d_Union_add_176 hin_Union rfl 6 (by decide) mw117 0 rfl rfl rfl ?_
    refine k_aload_n C d_Union_add_179 rfl 2 rfl rfl ?_
    refine k_getf C d_Union_add_180 hin_Union rfl 8 (by decide) mw107 0 rfl rfl rfl ?_
    refine k_aload_n C d_Union_add_183 rfl 3 rfl rfl ?_
    refine k_getN C d_Union_add_184 hin_Rule rfl 1 (by decide) mw116 6 rfl rfl rfl ?_
    refine k_if_eq (tgt := 194) C d_Union_add_187 (by decide) rfl (fun c3 => ?_) (fun c3 => ?_)
    · replace h := gi_t h c3
      refine k_aload_n C d_Union_add_194 rfl 3 rfl rfl ?_
      refine k_getN C d_Union_add_195 hin_Rule rfl 2 (by decide) mw118 6 rfl rfl rfl ?_
      exact J198 l3_j174 zz_ruleCount_j174 uu_permissions zz_pieceCount_j174 zz_ruleCount_j174 zz_behind_j174 zz_readersOf_j174 zz_endsOf_j174 (upd zz_allowedBy_j174 s1_j174.toNatClampNeg s2_j174) zz_deniedBy_j174 h
    · replace h := gi_f h c3
      refine k_iconst C d_Union_add_190 (v := (0 : Int32)) (by decide) rfl ?_
      refine k_goto (tgt := 198) C d_Union_add_191 (by decide) ?_
      exact J198 l3_j174 zz_ruleCount_j174 (0 : Int32) zz_pieceCount_j174 zz_ruleCount_j174 zz_behind_j174 zz_readersOf_j174 zz_endsOf_j174 (upd zz_allowedBy_j174 s1_j174.toNatClampNeg s2_j174) zz_deniedBy_j174 h
  have J101 : ∀ (l3_j101 : Int32) (zz_pieceCount_j101 : Int32) (zz_ruleCount_j101 : Int32) (zz_behind_j101 : Nat → Int64) (zz_readersOf_j101 : Nat → Int64) (zz_endsOf_j101 : Nat → Int64) (zz_allowedBy_j101 : Nat → Int32) (zz_deniedBy_j101 : Nat → Int32), f_Union_add_J101 uu_allows uu_permissions gg_pieceCount gg_ends gg_readersOf fu zz_pieceCount_j101 zz_ruleCount_j101 zz_behind_j101 zz_readersOf_j101 zz_endsOf_j101 zz_allowedBy_j101 zz_deniedBy_j101 = some (o_zz_pieceCount, o_zz_ruleCount, o_zz_behind, o_zz_readersOf, o_zz_endsOf, o_zz_allowedBy, o_zz_deniedBy) → Wk X { frames := 1, cells := 0, slots := 0, locals := 22 } 4 D (va_A (w_Union_add (cI := cI) (cJ := cJ) (cC := cC) (cZ := cZ) (cR := cR) a_z a_zb a_zr a_zc a_zq a_ze a_za a_zd a_u a_g a_gb a_gr a_ge a_go a_gc zz_pieceCount zz_ruleCount zz_columnCount zz_behind zz_readersOf zz_endsOf zz_allowedBy zz_deniedBy uu_allows uu_permissions gg_pieceCount gg_depth gg_ends gg_behind gg_readersOf) (xs X).heap.size) 0 0 (GE X D (w_Union_add (cI := cI) (cJ := cJ) (cC := cC) (cZ := cZ) (cR := cR) a_z a_zb a_zr a_zc a_zq a_ze a_za a_zd a_u a_g a_gb a_gr a_ge a_go a_gc zz_pieceCount zz_ruleCount zz_columnCount zz_behind zz_readersOf zz_endsOf zz_allowedBy zz_deniedBy uu_allows uu_permissions gg_pieceCount gg_depth gg_ends gg_behind gg_readersOf) (fun (o : Option Value) (w : va_W) => o = none ∧ w = w_Union_add (cI := cI) (cJ := cJ) (cC := cC) (cZ := cZ) (cR := cR) a_z a_zb a_zr a_zc a_zq a_ze a_za a_zd a_u a_g a_gb a_gr a_ge a_go a_gc o_zz_pieceCount o_zz_ruleCount zz_columnCount o_zz_behind o_zz_readersOf o_zz_endsOf o_zz_allowedBy o_zz_deniedBy uu_allows uu_permissions gg_pieceCount gg_depth gg_ends gg_behind gg_readersOf) 0 0) (w_Union_add (cI := cI) (cJ := cJ) (cC := cC) (cZ := cZ) (cR := cR) a_z a_zb a_zr a_zc a_zq a_ze a_za a_zd a_u a_g a_gb a_gr a_ge a_go a_gc zz_pieceCount_j101 zz_ruleCount_j101 zz_columnCount zz_behind_j101 zz_readersOf_j101 zz_endsOf_j101 zz_allowedBy_j101 zz_deniedBy_j101 uu_allows uu_permissions gg_pieceCount gg_depth gg_ends gg_behind gg_readersOf) [(3, .int l3_j101), (2, .ref a_g), (0, .ref a_z), (1, .ref a_u)] [] 101 := by
    intro l3_j101 zz_pieceCount_j101 zz_ruleCount_j101 zz_behind_j101 zz_readersOf_j101 zz_endsOf_j101 zz_allowedBy_j101 zz_deniedBy_j101 h
    refine k_iconst C d_Union_add_101 (v := (0 : Int32)) (by decide) rfl ?_
    refine k_istore_n (lv' := [(3, .int (0 : Int32)), (2, .ref a_g), (0, .ref a_z), (1, .ref a_u)]) C d_Union_add_102 rfl (by decide) rfl rfl ?_
    have X103_0 : ∀ (l3_103 : Int32) (zz_readersOf_103 : Nat → Int64), (Option.bind (f_Union_moved gg_ends zz_pieceCount_j101) fun r10 => (if inB zz_ruleCount_j101 6 = true then (if uu_allows = 0 then (f_Union_add_J174 uu_allows uu_permissions gg_pieceCount zz_ruleCount_j101 (0 : Int32) zz_pieceCount_j101 zz_ruleCount_j101 zz_behind_j101 zz_readersOf_103 (vp_updL zz_endsOf_j101 zz_ruleCount_j101.toNatClampNeg r10) zz_allowedBy_j101 zz_deniedBy_j101) else (f_Union_add_J174 uu_allows uu_permissions gg_pieceCount zz_ruleCount_j101 uu_permissions zz_pieceCount_j101 zz_ruleCount_j101 zz_behind_j101 zz_readersOf_103 (vp_updL zz_endsOf_j101 zz_ruleCount_j101.toNatClampNeg r10) zz_allowedBy_j101 zz_deniedBy_j101)) else none)) = some (o_zz_pieceCount, o_zz_ruleCount, o_zz_behind, o_zz_readersOf, o_zz_endsOf, o_zz_allowedBy, o_zz_deniedBy) → Wk X { frames := 1, cells := 0, slots := 0, locals := 22 } 4 D (va_A (w_Union_add (cI := cI) (cJ := cJ) (cC := cC) (cZ := cZ) (cR := cR) a_z a_zb a_zr a_zc a_zq a_ze a_za a_zd a_u a_g a_gb a_gr a_ge a_go a_gc zz_pieceCount zz_ruleCount zz_columnCount zz_behind zz_readersOf zz_endsOf zz_allowedBy zz_deniedBy uu_allows uu_permissions gg_pieceCount gg_depth gg_ends gg_behind gg_readersOf) (xs X).heap.size) 0 0 (GE X D (w_Union_add (cI := cI) (cJ := cJ) (cC := cC) (cZ := cZ) (cR := cR) a_z a_zb a_zr a_zc a_zq a_ze a_za a_zd a_u a_g a_gb a_gr a_ge a_go a_gc zz_pieceCount zz_ruleCount zz_columnCount zz_behind zz_readersOf zz_endsOf zz_allowedBy zz_deniedBy uu_allows uu_permissions gg_pieceCount gg_depth gg_ends gg_behind gg_readersOf) (fun (o : Option Value) (w : va_W) => o = none ∧ w = w_Union_add (cI := cI) (cJ := cJ) (cC := cC) (cZ := cZ) (cR := cR) a_z a_zb a_zr a_zc a_zq a_ze a_za a_zd a_u a_g a_gb a_gr a_ge a_go a_gc o_zz_pieceCount o_zz_ruleCount zz_columnCount o_zz_behind o_zz_readersOf o_zz_endsOf o_zz_allowedBy o_zz_deniedBy uu_allows uu_permissions gg_pieceCount gg_depth gg_ends gg_behind gg_readersOf) 0 0) (w_Union_add (cI := cI) (cJ := cJ) (cC := cC) (cZ := cZ) (cR := cR) a_z a_zb a_zr a_zc a_zq a_ze a_za a_zd a_u a_g a_gb a_gr a_ge a_go a_gc zz_pieceCount_j101 zz_ruleCount_j101 zz_columnCount zz_behind_j101 zz_readersOf_103 zz_endsOf_j101 zz_allowedBy_j101 zz_deniedBy_j101 uu_allows uu_permissions gg_pieceCount gg_depth gg_ends gg_behind gg_readersOf) [(3, .int l3_103), (2, .ref a_g), (0, .ref a_z), (1, .ref a_u)] [] 134 := by
      intro l3_103 zz_readersOf_103 h
      refine k_aload_n C d_Union_add_134 rfl 2 rfl rfl ?_
      refine k_getf C d_Union_add_135 hin_Union rfl 4 (by decide) mw113 0 rfl rfl rfl ?_
      refine k_aload_n C d_Union_add_138 rfl 2 rfl rfl ?_
      refine k_getf C d_Union_add_139 hin_Union rfl 8 (by decide) mw107 0 rfl rfl rfl ?_
      refine k_aload_n C d_Union_add_142 rfl 2 rfl rfl ?_
      refine k_aload_n C d_Union_add_143 rfl 1 rfl rfl ?_
      refine k_getN C d_Union_add_144 hin_Glob rfl 7 (by decide) mw114 7 rfl rfl rfl ?_
      obtain ⟨r10, hc11, h⟩ := bd h
      refine k_callVd (As := [.long gg_ends]) (st := [.int zz_ruleCount_j101, .ref a_ze]) (st' := [.long r10, .int zz_ruleCount_j101, .ref a_ze]) (wn := w_Union_add (cI := cI) (cJ := cJ) (cC := cC) (cZ := cZ) (cR := cR) a_z a_zb a_zr a_zc a_zq a_ze a_za a_zd a_u a_g a_gb a_gr a_ge a_go a_gc zz_pieceCount_j101 zz_ruleCount_j101 zz_columnCount zz_behind_j101 zz_readersOf_103 zz_endsOf_j101 zz_allowedBy_j101 zz_deniedBy_j101 uu_allows uu_permissions gg_pieceCount gg_depth gg_ends gg_behind gg_readersOf) C d_Union_add_147 (c_Union_moved fu a_z a_zb a_zr a_zc a_zq a_ze a_za a_zd zz_pieceCount_j101 zz_ruleCount_j101 zz_columnCount gg_ends r10 hc11) co_Union_moved cov_Union_moved mw120 0 rfl rfl (by decide) (by decide) (Nat.le_of_ble_eq_true rfl) rfl [0] [1, 2, 3, 4, 5, 6, 7, 8, 9] [9, 0, 1, 2, 3, 4, 5, 6, 7, 8] rfl (by decide +kernel) rfl (by decide +kernel) (by decide +kernel) rfl (by decide +kernel) rfl rfl ?_
      have g12 := gd1 h
      replace h := gd2 h
      refine k_last (ws' := w_Union_add (cI := cI) (cJ := cJ) (cC := cC) (cZ := cZ) (cR := cR) a_z a_zb a_zr a_zc a_zq a_ze a_za a_zd a_u a_g a_gb a_gr a_ge a_go a_gc zz_pieceCount_j101 zz_ruleCount_j101 zz_columnCount zz_behind_j101 zz_readersOf_103 (vp_updL zz_endsOf_j101 zz_ruleCount_j101.toNatClampNeg r10) zz_allowedBy_j101 zz_deniedBy_j101 uu_allows uu_permissions gg_pieceCount gg_depth gg_ends gg_behind gg_readersOf) C d_Union_add_150 3 1 rfl rfl (inB_in g12) rfl rfl ?_
      refine k_aload_n C d_Union_add_151 rfl 2 rfl rfl ?_
      refine k_getf C d_Union_add_152 hin_Union rfl 5 (by decide) mw115 0 rfl rfl rfl ?_
      refine k_aload_n C d_Union_add_155 rfl 2 rfl rfl ?_
      refine k_getf C d_Union_add_156 hin_Union rfl 8 (by decide) mw107 0 rfl rfl rfl ?_
      refine k_aload_n C d_Union_add_159 rfl 3 rfl rfl ?_
      refine k_getN C d_Union_add_160 hin_Rule rfl 1 (by decide) mw116 6 rfl rfl rfl ?_
      refine k_if_eq (tgt := 173) C d_Union_add_163 (by decide) rfl (fun c13 => ?_) (fun c13 => ?_)
      · replace h := gi_t h c13
        refine k_iconst C d_Union_add_173 (v := (0 : Int32)) (by decide) rfl ?_
        exact J174 l3_103 zz_ruleCount_j101 (0 : Int32) zz_pieceCount_j101 zz_ruleCount_j101 zz_behind_j101 zz_readersOf_103 (vp_updL zz_endsOf_j101 zz_ruleCount_j101.toNatClampNeg r10) zz_allowedBy_j101 zz_deniedBy_j101 h
      · replace h := gi_f h c13
        refine k_aload_n C d_Union_add_166 rfl 3 rfl rfl ?_
        refine k_getN C d_Union_add_167 hin_Rule rfl 2 (by decide) mw118 6 rfl rfl rfl ?_
        refine k_goto (tgt := 174) C d_Union_add_170 (by decide) ?_
        exact J174 l3_103 zz_ruleCount_j101 uu_permissions zz_pieceCount_j101 zz_ruleCount_j101 zz_behind_j101 zz_readersOf_103 (vp_updL zz_endsOf_j101 zz_ruleCount_j101.toNatClampNeg r10) zz_allowedBy_j101 zz_deniedBy_j101 h
    have L103 : ∀ (kk103_0 : Int32 → (Nat → Int64) → Option (Int32 × Int32 × (Nat → Int64) × (Nat → Int64) × (Nat → Int64) × (Nat → Int32) × (Nat → Int32))) (hX103_0 : ∀ (l3_103 : Int32) (zz_readersOf_103 : Nat → Int64), kk103_0 l3_103 zz_readersOf_103 = some (o_zz_pieceCount, o_zz_ruleCount, o_zz_behind, o_zz_readersOf, o_zz_endsOf, o_zz_allowedBy, o_zz_deniedBy) → Wk X { frames := 1, cells := 0, slots := 0, locals := 22 } 4 D (va_A (w_Union_add (cI := cI) (cJ := cJ) (cC := cC) (cZ := cZ) (cR := cR) a_z a_zb a_zr a_zc a_zq a_ze a_za a_zd a_u a_g a_gb a_gr a_ge a_go a_gc zz_pieceCount zz_ruleCount zz_columnCount zz_behind zz_readersOf zz_endsOf zz_allowedBy zz_deniedBy uu_allows uu_permissions gg_pieceCount gg_depth gg_ends gg_behind gg_readersOf) (xs X).heap.size) 0 0 (GE X D (w_Union_add (cI := cI) (cJ := cJ) (cC := cC) (cZ := cZ) (cR := cR) a_z a_zb a_zr a_zc a_zq a_ze a_za a_zd a_u a_g a_gb a_gr a_ge a_go a_gc zz_pieceCount zz_ruleCount zz_columnCount zz_behind zz_readersOf zz_endsOf zz_allowedBy zz_deniedBy uu_allows uu_permissions gg_pieceCount gg_depth gg_ends gg_behind gg_readersOf) (fun (o : Option Value) (w : va_W) => o = none ∧ w = w_Union_add (cI := cI) (cJ := cJ) (cC := cC) (cZ := cZ) (cR := cR) a_z a_zb a_zr a_zc a_zq a_ze a_za a_zd a_u a_g a_gb a_gr a_ge a_go a_gc o_zz_pieceCount o_zz_ruleCount zz_columnCount o_zz_behind o_zz_readersOf o_zz_endsOf o_zz_allowedBy o_zz_deniedBy uu_allows uu_permissions gg_pieceCount gg_depth gg_ends gg_behind gg_readersOf) 0 0) (w_Union_add (cI := cI) (cJ := cJ) (cC := cC) (cZ := cZ) (cR := cR) a_z a_zb a_zr a_zc a_zq a_ze a_za a_zd a_u a_g a_gb a_gr a_ge a_go a_gc zz_pieceCount_j101 zz_ruleCount_j101 zz_columnCount zz_behind_j101 zz_readersOf_103 zz_endsOf_j101 zz_allowedBy_j101 zz_deniedBy_j101 uu_allows uu_permissions gg_pieceCount gg_depth gg_ends gg_behind gg_readersOf) [(3, .int l3_103), (2, .ref a_g), (0, .ref a_z), (1, .ref a_u)] [] 134) (n_103 : Nat) (l3_103 : Int32) (zz_readersOf_103 : Nat → Int64), f_Union_add_L103 gg_readersOf zz_pieceCount_j101 kk103_0 n_103 l3_103 zz_readersOf_103 = some (o_zz_pieceCount, o_zz_ruleCount, o_zz_behind, o_zz_readersOf, o_zz_endsOf, o_zz_allowedBy, o_zz_deniedBy) → Wk X { frames := 1, cells := 0, slots := 0, locals := 22 } 4 D (va_A (w_Union_add (cI := cI) (cJ := cJ) (cC := cC) (cZ := cZ) (cR := cR) a_z a_zb a_zr a_zc a_zq a_ze a_za a_zd a_u a_g a_gb a_gr a_ge a_go a_gc zz_pieceCount zz_ruleCount zz_columnCount zz_behind zz_readersOf zz_endsOf zz_allowedBy zz_deniedBy uu_allows uu_permissions gg_pieceCount gg_depth gg_ends gg_behind gg_readersOf) (xs X).heap.size) 0 0 (GE X D (w_Union_add (cI := cI) (cJ := cJ) (cC := cC) (cZ := cZ) (cR := cR) a_z a_zb a_zr a_zc a_zq a_ze a_za a_zd a_u a_g a_gb a_gr a_ge a_go a_gc zz_pieceCount zz_ruleCount zz_columnCount zz_behind zz_readersOf zz_endsOf zz_allowedBy zz_deniedBy uu_allows uu_permissions gg_pieceCount gg_depth gg_ends gg_behind gg_readersOf) (fun (o : Option Value) (w : va_W) => o = none ∧ w = w_Union_add (cI := cI) (cJ := cJ) (cC := cC) (cZ := cZ) (cR := cR) a_z a_zb a_zr a_zc a_zq a_ze a_za a_zd a_u a_g a_gb a_gr a_ge a_go a_gc o_zz_pieceCount o_zz_ruleCount zz_columnCount o_zz_behind o_zz_readersOf o_zz_endsOf o_zz_allowedBy o_zz_deniedBy uu_allows uu_permissions gg_pieceCount gg_depth gg_ends gg_behind gg_readersOf) 0 0) (w_Union_add (cI := cI) (cJ := cJ) (cC := cC) (cZ := cZ) (cR := cR) a_z a_zb a_zr a_zc a_zq a_ze a_za a_zd a_u a_g a_gb a_gr a_ge a_go a_gc zz_pieceCount_j101 zz_ruleCount_j101 zz_columnCount zz_behind_j101 zz_readersOf_103 zz_endsOf_j101 zz_allowedBy_j101 zz_deniedBy_j101 uu_allows uu_permissions gg_pieceCount gg_depth gg_ends gg_behind gg_readersOf) [(3, .int l3_103), (2, .ref a_g), (0, .ref a_z), (1, .ref a_u)] [] 103 := by
      intro kk103_0 hX103_0 n_103
      induction n_103 with
      | zero =>
        intro l3_103 zz_readersOf_103 h
        exact nS h
      | succ n_103 ih103 =>
        intro l3_103 zz_readersOf_103 h
        replace h := (f_Union_add_L103_s _ _ _ _ _ _).symm.trans h
        refine k_iload_n C d_Union_add_103 rfl 0 rfl rfl ?_
        refine k_bipush C d_Union_add_104 (v := (95 : Int32)) (by decide) rfl ?_
        refine k_icmp_ge (tgt := 134) C d_Union_add_106 (by decide) rfl (fun c4 => ?_) (fun c4 => ?_)
        · replace h := gi_t h c4
          exact hX103_0 l3_103 zz_readersOf_103 h
        · replace h := gi_f h c4
          refine k_aload_n C d_Union_add_109 rfl 2 rfl rfl ?_
          refine k_getf C d_Union_add_110 hin_Union rfl 1 (by decide) mw105 0 rfl rfl rfl ?_
          refine k_iload_n C d_Union_add_113 rfl 0 rfl rfl ?_
          refine k_dup2_11 C d_Union_add_114 rfl rfl rfl ?_
          have g5 := gd1 h
          replace h := gd2 h
          refine k_lald C d_Union_add_115 2 1 rfl rfl (inB_in g5) rfl ?_
          refine k_aload_n C d_Union_add_116 rfl 2 rfl rfl ?_
          refine k_aload_n C d_Union_add_117 rfl 1 rfl rfl ?_
          refine k_getN C d_Union_add_118 hin_Glob rfl 1 (by decide) mw119 7 rfl rfl rfl ?_
          refine k_iload_n C d_Union_add_121 rfl 0 rfl rfl ?_
          have g6 := gd1 h
          replace h := gd2 h
          refine k_lald C d_Union_add_122 9 1 rfl rfl (inB_in g6) rfl ?_
          obtain ⟨r7, hc8, h⟩ := bd h
          refine k_callVd (As := [.long (gg_readersOf l3_103.toNatClampNeg)]) (st := [.long (zz_readersOf_103 l3_103.toNatClampNeg), .int l3_103, .ref a_zr]) (st' := [.long r7, .long (zz_readersOf_103 l3_103.toNatClampNeg), .int l3_103, .ref a_zr]) (wn := w_Union_add (cI := cI) (cJ := cJ) (cC := cC) (cZ := cZ) (cR := cR) a_z a_zb a_zr a_zc a_zq a_ze a_za a_zd a_u a_g a_gb a_gr a_ge a_go a_gc zz_pieceCount_j101 zz_ruleCount_j101 zz_columnCount zz_behind_j101 zz_readersOf_103 zz_endsOf_j101 zz_allowedBy_j101 zz_deniedBy_j101 uu_allows uu_permissions gg_pieceCount gg_depth gg_ends gg_behind gg_readersOf) C d_Union_add_123 (c_Union_moved fu a_z a_zb a_zr a_zc a_zq a_ze a_za a_zd zz_pieceCount_j101 zz_ruleCount_j101 zz_columnCount (gg_readersOf l3_103.toNatClampNeg) r7 hc8) co_Union_moved cov_Union_moved mw120 0 rfl rfl (by decide) (by decide) (Nat.le_of_ble_eq_true rfl) rfl [0] [1, 2, 3, 4, 5, 6, 7, 8, 9] [9, 0, 1, 2, 3, 4, 5, 6, 7, 8] rfl (by decide +kernel) rfl (by decide +kernel) (by decide +kernel) rfl (by decide +kernel) rfl rfl ?_
          refine k_lor C d_Union_add_126 rfl ?_
          have g9 := gd1 h
          replace h := gd2 h
          refine k_last (ws' := w_Union_add (cI := cI) (cJ := cJ) (cC := cC) (cZ := cZ) (cR := cR) a_z a_zb a_zr a_zc a_zq a_ze a_za a_zd a_u a_g a_gb a_gr a_ge a_go a_gc zz_pieceCount_j101 zz_ruleCount_j101 zz_columnCount zz_behind_j101 (vp_updL zz_readersOf_103 l3_103.toNatClampNeg ((zz_readersOf_103 l3_103.toNatClampNeg) ||| r7)) zz_endsOf_j101 zz_allowedBy_j101 zz_deniedBy_j101 uu_allows uu_permissions gg_pieceCount gg_depth gg_ends gg_behind gg_readersOf) C d_Union_add_127 2 1 rfl rfl (inB_in g9) rfl rfl ?_
          refine k_iinc (lv' := [(3, .int (l3_103 + 1)), (2, .ref a_g), (0, .ref a_z), (1, .ref a_u)]) C d_Union_add_128 0 rfl rfl (by decide) rfl rfl ?_
          refine k_goto (tgt := 103) C d_Union_add_131 (by decide) ?_
          exact ih103 (l3_103 + 1) (vp_updL zz_readersOf_103 l3_103.toNatClampNeg ((zz_readersOf_103 l3_103.toNatClampNeg) ||| r7)) h
    exact L103 (fun l3_103 zz_readersOf_103 => (Option.bind (f_Union_moved gg_ends zz_pieceCount_j101) fun r10 => (if inB zz_ruleCount_j101 6 = true then (if uu_allows = 0 then (f_Union_add_J174 uu_allows uu_permissions gg_pieceCount zz_ruleCount_j101 (0 : Int32) zz_pieceCount_j101 zz_ruleCount_j101 zz_behind_j101 zz_readersOf_103 (vp_updL zz_endsOf_j101 zz_ruleCount_j101.toNatClampNeg r10) zz_allowedBy_j101 zz_deniedBy_j101) else (f_Union_add_J174 uu_allows uu_permissions gg_pieceCount zz_ruleCount_j101 uu_permissions zz_pieceCount_j101 zz_ruleCount_j101 zz_behind_j101 zz_readersOf_103 (vp_updL zz_endsOf_j101 zz_ruleCount_j101.toNatClampNeg r10) zz_allowedBy_j101 zz_deniedBy_j101)) else none))) X103_0 fu (0 : Int32) zz_readersOf_j101 h
  refine k_aload_n C d_Union_add_0 rfl 1 rfl rfl ?_
  refine k_ifnull C d_Union_add_1 rfl ?_
  refine k_aload_n C d_Union_add_4 rfl 0 rfl rfl ?_
  refine k_getf C d_Union_add_5 hin_Union rfl 8 (by decide) mw107 0 rfl rfl rfl ?_
  refine k_bipush C d_Union_add_8 (v := (6 : Int32)) (by decide) rfl ?_
  refine k_icmp_ge (tgt := 30) C d_Union_add_10 (by decide) rfl (fun c14 => ?_) (fun c14 => ?_)
  · replace h := gi_t h c14
    exact k_vret C d_Union_add_30 (tr1 h (fun t => (fun (o : Option Value) (w : va_W) => o = none ∧ w = w_Union_add (cI := cI) (cJ := cJ) (cC := cC) (cZ := cZ) (cR := cR) a_z a_zb a_zr a_zc a_zq a_ze a_za a_zd a_u a_g a_gb a_gr a_ge a_go a_gc (t.1) (t.2.1) zz_columnCount (t.2.2.1) (t.2.2.2.1) (t.2.2.2.2.1) (t.2.2.2.2.2.1) (t.2.2.2.2.2.2) uu_allows uu_permissions gg_pieceCount gg_depth gg_ends gg_behind gg_readersOf) none (w_Union_add (cI := cI) (cJ := cJ) (cC := cC) (cZ := cZ) (cR := cR) a_z a_zb a_zr a_zc a_zq a_ze a_za a_zd a_u a_g a_gb a_gr a_ge a_go a_gc zz_pieceCount zz_ruleCount zz_columnCount zz_behind zz_readersOf zz_endsOf zz_allowedBy zz_deniedBy uu_allows uu_permissions gg_pieceCount gg_depth gg_ends gg_behind gg_readersOf)) ⟨rfl, rfl⟩)
  · replace h := gi_f h c14
    refine k_aload_n C d_Union_add_13 rfl 0 rfl rfl ?_
    refine k_getf C d_Union_add_14 hin_Union rfl 7 (by decide) mw106 0 rfl rfl rfl ?_
    refine k_aload_n C d_Union_add_17 rfl 1 rfl rfl ?_
    refine k_getN C d_Union_add_18 hin_Rule rfl 0 (by decide) mw110 6 rfl rfl rfl ?_
    refine k_getN C d_Union_add_21 hin_Glob rfl 5 (by decide) mw111 7 rfl rfl rfl ?_
    refine k_iadd C d_Union_add_24 rfl ?_
    refine k_bipush C d_Union_add_25 (v := (60 : Int32)) (by decide) rfl ?_
    refine k_icmp_le (tgt := 31) C d_Union_add_27 (by decide) rfl (fun c15 => ?_) (fun c15 => ?_)
    · replace h := gi_t h c15
      refine k_aload_n C d_Union_add_31 rfl 1 rfl rfl ?_
      refine k_getN C d_Union_add_32 hin_Rule rfl 0 (by decide) mw110 6 rfl rfl rfl ?_
      refine k_astore_n (lv' := [(2, .ref a_g), (0, .ref a_z), (1, .ref a_u)]) C d_Union_add_35 rfl (by decide) rfl rfl ?_
      refine k_aload_n C d_Union_add_36 rfl 1 rfl rfl ?_
      refine k_getf C d_Union_add_37 hin_Union rfl 0 (by decide) mw104 0 rfl rfl rfl ?_
      refine k_iconst C d_Union_add_40 (v := (0 : Int32)) (by decide) rfl ?_
      refine k_dup2_11 C d_Union_add_41 rfl rfl rfl ?_
      have g16 := gd1 h
      replace h := gd2 h
      refine k_lald C d_Union_add_42 1 1 rfl rfl (inB_in g16) rfl ?_
      refine k_aload_n C d_Union_add_43 rfl 1 rfl rfl ?_
      refine k_aload_n C d_Union_add_44 rfl 0 rfl rfl ?_
      refine k_getN C d_Union_add_45 hin_Glob rfl 0 (by decide) mw112 7 rfl rfl rfl ?_
      refine k_iconst C d_Union_add_48 (v := (0 : Int32)) (by decide) rfl ?_
      have g17 := gd1 h
      replace h := gd2 h
      refine k_lald C d_Union_add_49 8 1 rfl rfl (inB_in g17) rfl ?_
      obtain ⟨r18, hc19, h⟩ := bd h
      refine k_callVd (As := [.long (gg_behind (0 : Int32).toNatClampNeg)]) (st := [.long (zz_behind (0 : Int32).toNatClampNeg), .int (0 : Int32), .ref a_zb]) (st' := [.long r18, .long (zz_behind (0 : Int32).toNatClampNeg), .int (0 : Int32), .ref a_zb]) (wn := w_Union_add (cI := cI) (cJ := cJ) (cC := cC) (cZ := cZ) (cR := cR) a_z a_zb a_zr a_zc a_zq a_ze a_za a_zd a_u a_g a_gb a_gr a_ge a_go a_gc zz_pieceCount zz_ruleCount zz_columnCount zz_behind zz_readersOf zz_endsOf zz_allowedBy zz_deniedBy uu_allows uu_permissions gg_pieceCount gg_depth gg_ends gg_behind gg_readersOf) C d_Union_add_50 (c_Union_moved fu a_z a_zb a_zr a_zc a_zq a_ze a_za a_zd zz_pieceCount zz_ruleCount zz_columnCount (gg_behind (0 : Int32).toNatClampNeg) r18 hc19) co_Union_moved cov_Union_moved mw120 0 rfl rfl (by decide) (by decide) (Nat.le_of_ble_eq_true rfl) rfl [0] [1, 2, 3, 4, 5, 6, 7, 8, 9] [9, 0, 1, 2, 3, 4, 5, 6, 7, 8] rfl (by decide +kernel) rfl (by decide +kernel) (by decide +kernel) rfl (by decide +kernel) rfl rfl ?_
      refine k_lor C d_Union_add_53 rfl ?_
      have g20 := gd1 h
      replace h := gd2 h
      refine k_last (ws' := w_Union_add (cI := cI) (cJ := cJ) (cC := cC) (cZ := cZ) (cR := cR) a_z a_zb a_zr a_zc a_zq a_ze a_za a_zd a_u a_g a_gb a_gr a_ge a_go a_gc zz_pieceCount zz_ruleCount zz_columnCount (vp_updL zz_behind (0 : Int32).toNatClampNeg ((zz_behind (0 : Int32).toNatClampNeg) ||| r18)) zz_readersOf zz_endsOf zz_allowedBy zz_deniedBy uu_allows uu_permissions gg_pieceCount gg_depth gg_ends gg_behind gg_readersOf) C d_Union_add_54 1 1 rfl rfl (inB_in g20) rfl rfl ?_
      refine k_iconst C d_Union_add_55 (v := (1 : Int32)) (by decide) rfl ?_
      refine k_istore_n (lv' := [(3, .int (1 : Int32)), (2, .ref a_g), (0, .ref a_z), (1, .ref a_u)]) C d_Union_add_56 rfl (by decide) rfl rfl ?_
      have X57_0 : ∀ (l3_57 : Int32) (zz_behind_57 : Nat → Int64), (f_Union_add_J101 uu_allows uu_permissions gg_pieceCount gg_ends gg_readersOf fu zz_pieceCount zz_ruleCount zz_behind_57 zz_readersOf zz_endsOf zz_allowedBy zz_deniedBy) = some (o_zz_pieceCount, o_zz_ruleCount, o_zz_behind, o_zz_readersOf, o_zz_endsOf, o_zz_allowedBy, o_zz_deniedBy) → Wk X { frames := 1, cells := 0, slots := 0, locals := 22 } 4 D (va_A (w_Union_add (cI := cI) (cJ := cJ) (cC := cC) (cZ := cZ) (cR := cR) a_z a_zb a_zr a_zc a_zq a_ze a_za a_zd a_u a_g a_gb a_gr a_ge a_go a_gc zz_pieceCount zz_ruleCount zz_columnCount zz_behind zz_readersOf zz_endsOf zz_allowedBy zz_deniedBy uu_allows uu_permissions gg_pieceCount gg_depth gg_ends gg_behind gg_readersOf) (xs X).heap.size) 0 0 (GE X D (w_Union_add (cI := cI) (cJ := cJ) (cC := cC) (cZ := cZ) (cR := cR) a_z a_zb a_zr a_zc a_zq a_ze a_za a_zd a_u a_g a_gb a_gr a_ge a_go a_gc zz_pieceCount zz_ruleCount zz_columnCount zz_behind zz_readersOf zz_endsOf zz_allowedBy zz_deniedBy uu_allows uu_permissions gg_pieceCount gg_depth gg_ends gg_behind gg_readersOf) (fun (o : Option Value) (w : va_W) => o = none ∧ w = w_Union_add (cI := cI) (cJ := cJ) (cC := cC) (cZ := cZ) (cR := cR) a_z a_zb a_zr a_zc a_zq a_ze a_za a_zd a_u a_g a_gb a_gr a_ge a_go a_gc o_zz_pieceCount o_zz_ruleCount zz_columnCount o_zz_behind o_zz_readersOf o_zz_endsOf o_zz_allowedBy o_zz_deniedBy uu_allows uu_permissions gg_pieceCount gg_depth gg_ends gg_behind gg_readersOf) 0 0) (w_Union_add (cI := cI) (cJ := cJ) (cC := cC) (cZ := cZ) (cR := cR) a_z a_zb a_zr a_zc a_zq a_ze a_za a_zd a_u a_g a_gb a_gr a_ge a_go a_gc zz_pieceCount zz_ruleCount zz_columnCount zz_behind_57 zz_readersOf zz_endsOf zz_allowedBy zz_deniedBy uu_allows uu_permissions gg_pieceCount gg_depth gg_ends gg_behind gg_readersOf) [(3, .int l3_57), (2, .ref a_g), (0, .ref a_z), (1, .ref a_u)] [] 101 := by
        intro l3_57 zz_behind_57 h
        exact J101 l3_57 zz_pieceCount zz_ruleCount zz_behind_57 zz_readersOf zz_endsOf zz_allowedBy zz_deniedBy h
      have L57 : ∀ (kk57_0 : Int32 → (Nat → Int64) → Option (Int32 × Int32 × (Nat → Int64) × (Nat → Int64) × (Nat → Int64) × (Nat → Int32) × (Nat → Int32))) (hX57_0 : ∀ (l3_57 : Int32) (zz_behind_57 : Nat → Int64), kk57_0 l3_57 zz_behind_57 = some (o_zz_pieceCount, o_zz_ruleCount, o_zz_behind, o_zz_readersOf, o_zz_endsOf, o_zz_allowedBy, o_zz_deniedBy) → Wk X { frames := 1, cells := 0, slots := 0, locals := 22 } 4 D (va_A (w_Union_add (cI := cI) (cJ := cJ) (cC := cC) (cZ := cZ) (cR := cR) a_z a_zb a_zr a_zc a_zq a_ze a_za a_zd a_u a_g a_gb a_gr a_ge a_go a_gc zz_pieceCount zz_ruleCount zz_columnCount zz_behind zz_readersOf zz_endsOf zz_allowedBy zz_deniedBy uu_allows uu_permissions gg_pieceCount gg_depth gg_ends gg_behind gg_readersOf) (xs X).heap.size) 0 0 (GE X D (w_Union_add (cI := cI) (cJ := cJ) (cC := cC) (cZ := cZ) (cR := cR) a_z a_zb a_zr a_zc a_zq a_ze a_za a_zd a_u a_g a_gb a_gr a_ge a_go a_gc zz_pieceCount zz_ruleCount zz_columnCount zz_behind zz_readersOf zz_endsOf zz_allowedBy zz_deniedBy uu_allows uu_permissions gg_pieceCount gg_depth gg_ends gg_behind gg_readersOf) (fun (o : Option Value) (w : va_W) => o = none ∧ w = w_Union_add (cI := cI) (cJ := cJ) (cC := cC) (cZ := cZ) (cR := cR) a_z a_zb a_zr a_zc a_zq a_ze a_za a_zd a_u a_g a_gb a_gr a_ge a_go a_gc o_zz_pieceCount o_zz_ruleCount zz_columnCount o_zz_behind o_zz_readersOf o_zz_endsOf o_zz_allowedBy o_zz_deniedBy uu_allows uu_permissions gg_pieceCount gg_depth gg_ends gg_behind gg_readersOf) 0 0) (w_Union_add (cI := cI) (cJ := cJ) (cC := cC) (cZ := cZ) (cR := cR) a_z a_zb a_zr a_zc a_zq a_ze a_za a_zd a_u a_g a_gb a_gr a_ge a_go a_gc zz_pieceCount zz_ruleCount zz_columnCount zz_behind_57 zz_readersOf zz_endsOf zz_allowedBy zz_deniedBy uu_allows uu_permissions gg_pieceCount gg_depth gg_ends gg_behind gg_readersOf) [(3, .int l3_57), (2, .ref a_g), (0, .ref a_z), (1, .ref a_u)] [] 101) (n_57 : Nat) (l3_57 : Int32) (zz_behind_57 : Nat → Int64), f_Union_add_L57 zz_pieceCount gg_pieceCount gg_behind kk57_0 n_57 l3_57 zz_behind_57 = some (o_zz_pieceCount, o_zz_ruleCount, o_zz_behind, o_zz_readersOf, o_zz_endsOf, o_zz_allowedBy, o_zz_deniedBy) → Wk X { frames := 1, cells := 0, slots := 0, locals := 22 } 4 D (va_A (w_Union_add (cI := cI) (cJ := cJ) (cC := cC) (cZ := cZ) (cR := cR) a_z a_zb a_zr a_zc a_zq a_ze a_za a_zd a_u a_g a_gb a_gr a_ge a_go a_gc zz_pieceCount zz_ruleCount zz_columnCount zz_behind zz_readersOf zz_endsOf zz_allowedBy zz_deniedBy uu_allows uu_permissions gg_pieceCount gg_depth gg_ends gg_behind gg_readersOf) (xs X).heap.size) 0 0 (GE X D (w_Union_add (cI := cI) (cJ := cJ) (cC := cC) (cZ := cZ) (cR := cR) a_z a_zb a_zr a_zc a_zq a_ze a_za a_zd a_u a_g a_gb a_gr a_ge a_go a_gc zz_pieceCount zz_ruleCount zz_columnCount zz_behind zz_readersOf zz_endsOf zz_allowedBy zz_deniedBy uu_allows uu_permissions gg_pieceCount gg_depth gg_ends gg_behind gg_readersOf) (fun (o : Option Value) (w : va_W) => o = none ∧ w = w_Union_add (cI := cI) (cJ := cJ) (cC := cC) (cZ := cZ) (cR := cR) a_z a_zb a_zr a_zc a_zq a_ze a_za a_zd a_u a_g a_gb a_gr a_ge a_go a_gc o_zz_pieceCount o_zz_ruleCount zz_columnCount o_zz_behind o_zz_readersOf o_zz_endsOf o_zz_allowedBy o_zz_deniedBy uu_allows uu_permissions gg_pieceCount gg_depth gg_ends gg_behind gg_readersOf) 0 0) (w_Union_add (cI := cI) (cJ := cJ) (cC := cC) (cZ := cZ) (cR := cR) a_z a_zb a_zr a_zc a_zq a_ze a_za a_zd a_u a_g a_gb a_gr a_ge a_go a_gc zz_pieceCount zz_ruleCount zz_columnCount zz_behind_57 zz_readersOf zz_endsOf zz_allowedBy zz_deniedBy uu_allows uu_permissions gg_pieceCount gg_depth gg_ends gg_behind gg_readersOf) [(3, .int l3_57), (2, .ref a_g), (0, .ref a_z), (1, .ref a_u)] [] 57 := by
        intro kk57_0 hX57_0 n_57
        induction n_57 with
        | zero =>
          intro l3_57 zz_behind_57 h
          exact nS h
        | succ n_57 ih57 =>
          intro l3_57 zz_behind_57 h
          replace h := (f_Union_add_L57_s _ _ _ _ _ _ _).symm.trans h
          refine k_iload_n C d_Union_add_57 rfl 0 rfl rfl ?_
          refine k_aload_n C d_Union_add_58 rfl 1 rfl rfl ?_
          refine k_getN C d_Union_add_59 hin_Glob rfl 5 (by decide) mw111 7 rfl rfl rfl ?_
          refine k_icmp_gt (tgt := 101) C d_Union_add_62 (by decide) rfl (fun c21 => ?_) (fun c21 => ?_)
          · replace h := gi_t h c21
            exact hX57_0 l3_57 zz_behind_57 h
          · replace h := gi_f h c21
            refine k_iload_n C d_Union_add_65 rfl 0 rfl rfl ?_
            refine k_aload_n C d_Union_add_66 rfl 1 rfl rfl ?_
            refine k_getN C d_Union_add_67 hin_Glob rfl 0 (by decide) mw112 7 rfl rfl rfl ?_
            refine k_alen (z := (41 : Int32)) C d_Union_add_70 8 1 rfl rfl rfl rfl ?_
            refine k_icmp_ge (tgt := 101) C d_Union_add_71 (by decide) rfl (fun c22 => ?_) (fun c22 => ?_)
            · replace h := gi_t h c22
              exact hX57_0 l3_57 zz_behind_57 h
            · replace h := gi_f h c22
              refine k_aload_n C d_Union_add_74 rfl 2 rfl rfl ?_
              refine k_getf C d_Union_add_75 hin_Union rfl 0 (by decide) mw104 0 rfl rfl rfl ?_
              refine k_aload_n C d_Union_add_78 rfl 2 rfl rfl ?_
              refine k_getf C d_Union_add_79 hin_Union rfl 7 (by decide) mw106 0 rfl rfl rfl ?_
              refine k_iload_n C d_Union_add_82 rfl 0 rfl rfl ?_
              refine k_iadd C d_Union_add_83 rfl ?_
              refine k_aload_n C d_Union_add_84 rfl 2 rfl rfl ?_
              refine k_aload_n C d_Union_add_85 rfl 1 rfl rfl ?_
              refine k_getN C d_Union_add_86 hin_Glob rfl 0 (by decide) mw112 7 rfl rfl rfl ?_
              refine k_iload_n C d_Union_add_89 rfl 0 rfl rfl ?_
              have g23 := gd1 h
              replace h := gd2 h
              refine k_lald C d_Union_add_90 8 1 rfl rfl (inB_in g23) rfl ?_
              obtain ⟨r24, hc25, h⟩ := bd h
              refine k_callVd (As := [.long (gg_behind l3_57.toNatClampNeg)]) (st := [.int (zz_pieceCount + l3_57), .ref a_zb]) (st' := [.long r24, .int (zz_pieceCount + l3_57), .ref a_zb]) (wn := w_Union_add (cI := cI) (cJ := cJ) (cC := cC) (cZ := cZ) (cR := cR) a_z a_zb a_zr a_zc a_zq a_ze a_za a_zd a_u a_g a_gb a_gr a_ge a_go a_gc zz_pieceCount zz_ruleCount zz_columnCount zz_behind_57 zz_readersOf zz_endsOf zz_allowedBy zz_deniedBy uu_allows uu_permissions gg_pieceCount gg_depth gg_ends gg_behind gg_readersOf) C d_Union_add_91 (c_Union_moved fu a_z a_zb a_zr a_zc a_zq a_ze a_za a_zd zz_pieceCount zz_ruleCount zz_columnCount (gg_behind l3_57.toNatClampNeg) r24 hc25) co_Union_moved cov_Union_moved mw120 0 rfl rfl (by decide) (by decide) (Nat.le_of_ble_eq_true rfl) rfl [0] [1, 2, 3, 4, 5, 6, 7, 8, 9] [9, 0, 1, 2, 3, 4, 5, 6, 7, 8] rfl (by decide +kernel) rfl (by decide +kernel) (by decide +kernel) rfl (by decide +kernel) rfl rfl ?_
              have g26 := gd1 h
              replace h := gd2 h
              refine k_last (ws' := w_Union_add (cI := cI) (cJ := cJ) (cC := cC) (cZ := cZ) (cR := cR) a_z a_zb a_zr a_zc a_zq a_ze a_za a_zd a_u a_g a_gb a_gr a_ge a_go a_gc zz_pieceCount zz_ruleCount zz_columnCount (vp_updL zz_behind_57 (zz_pieceCount + l3_57).toNatClampNeg r24) zz_readersOf zz_endsOf zz_allowedBy zz_deniedBy uu_allows uu_permissions gg_pieceCount gg_depth gg_ends gg_behind gg_readersOf) C d_Union_add_94 1 1 rfl rfl (inB_in g26) rfl rfl ?_
              refine k_iinc (lv' := [(3, .int (l3_57 + 1)), (2, .ref a_g), (0, .ref a_z), (1, .ref a_u)]) C d_Union_add_95 0 rfl rfl (by decide) rfl rfl ?_
              refine k_goto (tgt := 57) C d_Union_add_98 (by decide) ?_
              exact ih57 (l3_57 + 1) (vp_updL zz_behind_57 (zz_pieceCount + l3_57).toNatClampNeg r24) h
      exact L57 (fun l3_57 zz_behind_57 => (f_Union_add_J101 uu_allows uu_permissions gg_pieceCount gg_ends gg_readersOf fu zz_pieceCount zz_ruleCount zz_behind_57 zz_readersOf zz_endsOf zz_allowedBy zz_deniedBy)) X57_0 fu (1 : Int32) (vp_updL zz_behind (0 : Int32).toNatClampNeg ((zz_behind (0 : Int32).toNatClampNeg) ||| r18)) h
    · replace h := gi_f h c15
      exact k_vret C d_Union_add_30 (tr1 h (fun t => (fun (o : Option Value) (w : va_W) => o = none ∧ w = w_Union_add (cI := cI) (cJ := cJ) (cC := cC) (cZ := cZ) (cR := cR) a_z a_zb a_zr a_zc a_zq a_ze a_za a_zd a_u a_g a_gb a_gr a_ge a_go a_gc (t.1) (t.2.1) zz_columnCount (t.2.2.1) (t.2.2.2.1) (t.2.2.2.2.1) (t.2.2.2.2.2.1) (t.2.2.2.2.2.2) uu_allows uu_permissions gg_pieceCount gg_depth gg_ends gg_behind gg_readersOf) none (w_Union_add (cI := cI) (cJ := cJ) (cC := cC) (cZ := cZ) (cR := cR) a_z a_zb a_zr a_zc a_zq a_ze a_za a_zd a_u a_g a_gb a_gr a_ge a_go a_gc zz_pieceCount zz_ruleCount zz_columnCount zz_behind zz_readersOf zz_endsOf zz_allowedBy zz_deniedBy uu_allows uu_permissions gg_pieceCount gg_depth gg_ends gg_behind gg_readersOf)) ⟨rfl, rfl⟩)
theorem d_Union_columnFor_0 : decode b_Union_columnFor 0 = .ok (.iconst 0, 1) := by decide +kernel
theorem d_Union_columnFor_1 : decode b_Union_columnFor 1 = .ok (.istore_n 3, 1) := by decide +kernel
theorem d_Union_columnFor_2 : decode b_Union_columnFor 2 = .ok (.iload_n 3, 1) := by decide +kernel
theorem d_Union_columnFor_3 : decode b_Union_columnFor 3 = .ok (.aload_n 0, 1) := by decide +kernel
theorem d_Union_columnFor_4 : decode b_Union_columnFor 4 = .ok (.getfield 75, 3) := by decide +kernel
theorem d_Union_columnFor_7 : decode b_Union_columnFor 7 = .ok (.if_icmp .ge 28, 3) := by decide +kernel
theorem d_Union_columnFor_10 : decode b_Union_columnFor 10 = .ok (.iload_n 3, 1) := by decide +kernel
theorem d_Union_columnFor_11 : decode b_Union_columnFor 11 = .ok (.bipush 95, 2) := by decide +kernel
theorem d_Union_columnFor_13 : decode b_Union_columnFor 13 = .ok (.if_icmp .ge 22, 3) := by decide +kernel
theorem d_Union_columnFor_16 : decode b_Union_columnFor 16 = .ok (.aload_n 0, 1) := by decide +kernel
theorem d_Union_columnFor_17 : decode b_Union_columnFor 17 = .ok (.getfield 22, 3) := by decide +kernel
theorem d_Union_columnFor_20 : decode b_Union_columnFor 20 = .ok (.iload_n 3, 1) := by decide +kernel
theorem d_Union_columnFor_21 : decode b_Union_columnFor 21 = .ok (.laload, 1) := by decide +kernel
theorem d_Union_columnFor_22 : decode b_Union_columnFor 22 = .ok (.lload_n 1, 1) := by decide +kernel
theorem d_Union_columnFor_23 : decode b_Union_columnFor 23 = .ok (.lcmp, 1) := by decide +kernel
theorem d_Union_columnFor_24 : decode b_Union_columnFor 24 = .ok (.ifCond .ne 5, 3) := by decide +kernel
theorem d_Union_columnFor_27 : decode b_Union_columnFor 27 = .ok (.iload_n 3, 1) := by decide +kernel
theorem d_Union_columnFor_28 : decode b_Union_columnFor 28 = .ok (.ireturn, 1) := by decide +kernel
theorem d_Union_columnFor_29 : decode b_Union_columnFor 29 = .ok (.iinc 3 1, 3) := by decide +kernel
theorem d_Union_columnFor_32 : decode b_Union_columnFor 32 = .ok (.goto (-30), 3) := by decide +kernel
theorem d_Union_columnFor_35 : decode b_Union_columnFor 35 = .ok (.aload_n 0, 1) := by decide +kernel
theorem d_Union_columnFor_36 : decode b_Union_columnFor 36 = .ok (.getfield 75, 3) := by decide +kernel
theorem d_Union_columnFor_39 : decode b_Union_columnFor 39 = .ok (.bipush 95, 2) := by decide +kernel
theorem d_Union_columnFor_41 : decode b_Union_columnFor 41 = .ok (.if_icmp .lt 5, 3) := by decide +kernel
theorem d_Union_columnFor_44 : decode b_Union_columnFor 44 = .ok (.iconst (-1), 1) := by decide +kernel
theorem d_Union_columnFor_45 : decode b_Union_columnFor 45 = .ok (.ireturn, 1) := by decide +kernel
theorem d_Union_columnFor_46 : decode b_Union_columnFor 46 = .ok (.aload_n 0, 1) := by decide +kernel
theorem d_Union_columnFor_47 : decode b_Union_columnFor 47 = .ok (.getfield 22, 3) := by decide +kernel
theorem d_Union_columnFor_50 : decode b_Union_columnFor 50 = .ok (.aload_n 0, 1) := by decide +kernel
theorem d_Union_columnFor_51 : decode b_Union_columnFor 51 = .ok (.getfield 75, 3) := by decide +kernel
theorem d_Union_columnFor_54 : decode b_Union_columnFor 54 = .ok (.lload_n 1, 1) := by decide +kernel
theorem d_Union_columnFor_55 : decode b_Union_columnFor 55 = .ok (.lastore, 1) := by decide +kernel
theorem d_Union_columnFor_56 : decode b_Union_columnFor 56 = .ok (.aload_n 0, 1) := by decide +kernel
theorem d_Union_columnFor_57 : decode b_Union_columnFor 57 = .ok (.dup, 1) := by decide +kernel
theorem d_Union_columnFor_58 : decode b_Union_columnFor 58 = .ok (.getfield 75, 3) := by decide +kernel
theorem d_Union_columnFor_61 : decode b_Union_columnFor 61 = .ok (.iconst 1, 1) := by decide +kernel
theorem d_Union_columnFor_62 : decode b_Union_columnFor 62 = .ok (.iadd, 1) := by decide +kernel
theorem d_Union_columnFor_63 : decode b_Union_columnFor 63 = .ok (.putfield 75, 3) := by decide +kernel
theorem d_Union_columnFor_66 : decode b_Union_columnFor 66 = .ok (.aload_n 0, 1) := by decide +kernel
theorem d_Union_columnFor_67 : decode b_Union_columnFor 67 = .ok (.getfield 75, 3) := by decide +kernel
theorem d_Union_columnFor_70 : decode b_Union_columnFor 70 = .ok (.iconst 1, 1) := by decide +kernel
theorem d_Union_columnFor_71 : decode b_Union_columnFor 71 = .ok (.isub, 1) := by decide +kernel
theorem d_Union_columnFor_72 : decode b_Union_columnFor 72 = .ok (.ireturn, 1) := by decide +kernel
abbrev w_Union_columnFor {cI cJ cC cZ cR : ClassId} (a_z a_zb a_zr a_zc a_zq a_ze a_za a_zd : Nat) (zz_pieceCount : Int32) (zz_ruleCount : Int32) (zz_columnCount : Int32) (zz_readersOfColumn : Nat → Int64) : va_W := [(a_z, .inr (4, [.ref a_zb, .ref a_zr, .ref a_zc, .ref a_zq, .ref a_ze, .ref a_za, .ref a_zd, .int zz_pieceCount, .int zz_ruleCount, .int zz_columnCount])), (a_zq, .inl (cJ, 95, .inr (.inl zz_readersOfColumn)))]
def f_Union_columnFor_J35 (p1 : Int64) (zz_columnCount_j35 : Int32) (zz_readersOfColumn_j35 : Nat → Int64) : Option (Int32 × Int32 × (Nat → Int64)) := (if zz_columnCount_j35 < (95 : Int32) then (if inB zz_columnCount_j35 95 = true then some (((zz_columnCount_j35 + (1 : Int32)) - (1 : Int32)), (zz_columnCount_j35 + (1 : Int32)), (vp_updL zz_readersOfColumn_j35 zz_columnCount_j35.toNatClampNeg p1)) else none) else some ((-1 : Int32), zz_columnCount_j35, zz_readersOfColumn_j35))
def f_Union_columnFor_L2 (zz_columnCount : Int32) (zz_readersOfColumn : Nat → Int64) (p1 : Int64) (kk2_0 : Int32 → Option (Int32 × Int32 × (Nat → Int64))) (kk2_1 : Int32 → Option (Int32 × Int32 × (Nat → Int64))) : Nat → Int32 → Option (Int32 × Int32 × (Nat → Int64))
  | 0, _ => none
  | n_2 + 1, l3_2 => (if zz_columnCount ≤ l3_2 then (kk2_0 l3_2) else (if (95 : Int32) ≤ l3_2 then (kk2_0 l3_2) else (if inB l3_2 95 = true then (if (lg_cmp (zz_readersOfColumn l3_2.toNatClampNeg) p1) = 0 then (kk2_1 l3_2) else (f_Union_columnFor_L2 zz_columnCount zz_readersOfColumn p1 kk2_0 kk2_1 n_2 (l3_2 + 1))) else none)))
theorem f_Union_columnFor_L2_s (zz_columnCount : Int32) (zz_readersOfColumn : Nat → Int64) (p1 : Int64) (kk2_0 : Int32 → Option (Int32 × Int32 × (Nat → Int64))) (kk2_1 : Int32 → Option (Int32 × Int32 × (Nat → Int64))) (n_2 : Nat) (l3_2 : Int32) : f_Union_columnFor_L2 zz_columnCount zz_readersOfColumn p1 kk2_0 kk2_1 (n_2 + 1) l3_2 = (if zz_columnCount ≤ l3_2 then (kk2_0 l3_2) else (if (95 : Int32) ≤ l3_2 then (kk2_0 l3_2) else (if inB l3_2 95 = true then (if (lg_cmp (zz_readersOfColumn l3_2.toNatClampNeg) p1) = 0 then (kk2_1 l3_2) else (f_Union_columnFor_L2 zz_columnCount zz_readersOfColumn p1 kk2_0 kk2_1 n_2 (l3_2 + 1))) else none))) := rfl
def f_Union_columnFor (fu : Nat) (p1 : Int64) (zz_columnCount : Int32) (zz_readersOfColumn : Nat → Int64) : Option (Int32 × Int32 × (Nat → Int64)) := (f_Union_columnFor_L2 zz_columnCount zz_readersOfColumn p1 (fun l3_2 => (f_Union_columnFor_J35 p1 zz_columnCount zz_readersOfColumn)) (fun l3_2 => some (l3_2, zz_columnCount, zz_readersOfColumn)) fu (0 : Int32))
set_option maxRecDepth 100000 in
set_option maxHeartbeats 4000000 in
theorem c_Union_columnFor {l : Launch} {D : va_G} {cI cJ cC cZ cR : ClassId} (fu : Nat) (a_z a_zb a_zr a_zc a_zq a_ze a_za a_zd : Nat)   (zz_pieceCount : Int32) (zz_ruleCount : Int32) (zz_columnCount : Int32) (zz_readersOfColumn : Nat → Int64) (p1 : Int64) (o_r : Int32) (o_zz_columnCount : Int32) (o_zz_readersOfColumn : Nat → Int64) (h : f_Union_columnFor fu p1 zz_columnCount zz_readersOfColumn = some (o_r, o_zz_columnCount, o_zz_readersOfColumn)) : GM l D (tysL cI cJ cC cZ cR) y_Union_columnFor b_Union_columnFor 4 (some (.int)) { frames := 0, cells := 0, slots := 0, locals := 0 } [.ref a_z, .long p1] (w_Union_columnFor (cI := cI) (cJ := cJ) (cC := cC) (cZ := cZ) (cR := cR) a_z a_zb a_zr a_zc a_zq a_ze a_za a_zd zz_pieceCount zz_ruleCount zz_columnCount zz_readersOfColumn) (fun (o : Option Value) (w : va_W) => o = some (.int o_r) ∧ w = w_Union_columnFor (cI := cI) (cJ := cJ) (cC := cC) (cZ := cZ) (cR := cR) a_z a_zb a_zr a_zc a_zq a_ze a_za a_zd zz_pieceCount zz_ruleCount o_zz_columnCount o_zz_readersOfColumn) := by
  refine GM.of (by decide) (Nat.le_of_ble_eq_true rfl) (lv := [(0, .ref a_z), (1, .long p1)]) rfl ?_
  intro X hX C
  subst hX
  have J35 : ∀ (l3_j35 : Int32) (zz_columnCount_j35 : Int32) (zz_readersOfColumn_j35 : Nat → Int64), f_Union_columnFor_J35 p1 zz_columnCount_j35 zz_readersOfColumn_j35 = some (o_r, o_zz_columnCount, o_zz_readersOfColumn) → Wk X { frames := 0, cells := 0, slots := 0, locals := 0 } 4 D (va_A (w_Union_columnFor (cI := cI) (cJ := cJ) (cC := cC) (cZ := cZ) (cR := cR) a_z a_zb a_zr a_zc a_zq a_ze a_za a_zd zz_pieceCount zz_ruleCount zz_columnCount zz_readersOfColumn) (xs X).heap.size) 0 0 (GE X D (w_Union_columnFor (cI := cI) (cJ := cJ) (cC := cC) (cZ := cZ) (cR := cR) a_z a_zb a_zr a_zc a_zq a_ze a_za a_zd zz_pieceCount zz_ruleCount zz_columnCount zz_readersOfColumn) (fun (o : Option Value) (w : va_W) => o = some (.int o_r) ∧ w = w_Union_columnFor (cI := cI) (cJ := cJ) (cC := cC) (cZ := cZ) (cR := cR) a_z a_zb a_zr a_zc a_zq a_ze a_za a_zd zz_pieceCount zz_ruleCount o_zz_columnCount o_zz_readersOfColumn) 0 0) (w_Union_columnFor (cI := cI) (cJ := cJ) (cC := cC) (cZ := cZ) (cR := cR) a_z a_zb a_zr a_zc a_zq a_ze a_za a_zd zz_pieceCount zz_ruleCount zz_columnCount_j35 zz_readersOfColumn_j35) [(3, .int l3_j35), (0, .ref a_z), (1, .long p1)] [] 35 := by
    intro l3_j35 zz_columnCount_j35 zz_readersOfColumn_j35 h
    refine k_aload_n C d_Union_columnFor_35 rfl 1 rfl rfl ?_
    refine k_getf C d_Union_columnFor_36 hin_Union rfl 9 (by decide) mw121 0 rfl rfl rfl ?_
    refine k_bipush C d_Union_columnFor_39 (v := (95 : Int32)) (by decide) rfl ?_
    refine k_icmp_lt (tgt := 46) C d_Union_columnFor_41 (by decide) rfl (fun c1 => ?_) (fun c1 => ?_)
    · replace h := gi_t h c1
      refine k_aload_n C d_Union_columnFor_46 rfl 1 rfl rfl ?_
      refine k_getf C d_Union_columnFor_47 hin_Union rfl 3 (by decide) mw122 0 rfl rfl rfl ?_
      refine k_aload_n C d_Union_columnFor_50 rfl 1 rfl rfl ?_
      refine k_getf C d_Union_columnFor_51 hin_Union rfl 9 (by decide) mw121 0 rfl rfl rfl ?_
      refine k_lload_n C d_Union_columnFor_54 rfl 2 rfl rfl ?_
      have g2 := gd1 h
      replace h := gd2 h
      refine k_last (ws' := w_Union_columnFor (cI := cI) (cJ := cJ) (cC := cC) (cZ := cZ) (cR := cR) a_z a_zb a_zr a_zc a_zq a_ze a_za a_zd zz_pieceCount zz_ruleCount zz_columnCount_j35 (vp_updL zz_readersOfColumn_j35 zz_columnCount_j35.toNatClampNeg p1)) C d_Union_columnFor_55 1 1 rfl rfl (inB_in g2) rfl rfl ?_
      refine k_aload_n C d_Union_columnFor_56 rfl 1 rfl rfl ?_
      refine k_dup C d_Union_columnFor_57 rfl rfl ?_
      refine k_getf C d_Union_columnFor_58 hin_Union rfl 9 (by decide) mw121 0 rfl rfl rfl ?_
      refine k_iconst C d_Union_columnFor_61 (v := (1 : Int32)) (by decide) rfl ?_
      refine k_iadd C d_Union_columnFor_62 rfl ?_
      refine k_putf (ws' := w_Union_columnFor (cI := cI) (cJ := cJ) (cC := cC) (cZ := cZ) (cR := cR) a_z a_zb a_zr a_zc a_zq a_ze a_za a_zd zz_pieceCount zz_ruleCount (zz_columnCount_j35 + (1 : Int32)) (vp_updL zz_readersOfColumn_j35 zz_columnCount_j35.toNatClampNeg p1)) C d_Union_columnFor_63 hin_Union hty_Union hnn_Union rfl 9 (by decide) mw121 rfl 0 rfl rfl rfl (Nat.le_of_ble_eq_true rfl) rfl rfl ?_
      refine k_aload_n C d_Union_columnFor_66 rfl 1 rfl rfl ?_
      refine k_getf C d_Union_columnFor_67 hin_Union rfl 9 (by decide) mw121 0 rfl rfl rfl ?_
      refine k_iconst C d_Union_columnFor_70 (v := (1 : Int32)) (by decide) rfl ?_
      refine k_isub C d_Union_columnFor_71 rfl ?_
      exact k_iret C d_Union_columnFor_72 (tr1 h (fun t => (fun (o : Option Value) (w : va_W) => o = some (.int (t.1)) ∧ w = w_Union_columnFor (cI := cI) (cJ := cJ) (cC := cC) (cZ := cZ) (cR := cR) a_z a_zb a_zr a_zc a_zq a_ze a_za a_zd zz_pieceCount zz_ruleCount (t.2.1) (t.2.2)) (some (Value.int ((zz_columnCount_j35 + (1 : Int32)) - (1 : Int32)))) (w_Union_columnFor (cI := cI) (cJ := cJ) (cC := cC) (cZ := cZ) (cR := cR) a_z a_zb a_zr a_zc a_zq a_ze a_za a_zd zz_pieceCount zz_ruleCount (zz_columnCount_j35 + (1 : Int32)) (vp_updL zz_readersOfColumn_j35 zz_columnCount_j35.toNatClampNeg p1))) ⟨rfl, rfl⟩)
    · replace h := gi_f h c1
      refine k_iconst C d_Union_columnFor_44 (v := (-1 : Int32)) (by decide) rfl ?_
      exact k_iret C d_Union_columnFor_45 (tr1 h (fun t => (fun (o : Option Value) (w : va_W) => o = some (.int (t.1)) ∧ w = w_Union_columnFor (cI := cI) (cJ := cJ) (cC := cC) (cZ := cZ) (cR := cR) a_z a_zb a_zr a_zc a_zq a_ze a_za a_zd zz_pieceCount zz_ruleCount (t.2.1) (t.2.2)) (some (Value.int (-1 : Int32))) (w_Union_columnFor (cI := cI) (cJ := cJ) (cC := cC) (cZ := cZ) (cR := cR) a_z a_zb a_zr a_zc a_zq a_ze a_za a_zd zz_pieceCount zz_ruleCount zz_columnCount_j35 zz_readersOfColumn_j35)) ⟨rfl, rfl⟩)
  refine k_iconst C d_Union_columnFor_0 (v := (0 : Int32)) (by decide) rfl ?_
  refine k_istore_n (lv' := [(3, .int (0 : Int32)), (0, .ref a_z), (1, .long p1)]) C d_Union_columnFor_1 rfl (by decide) rfl rfl ?_
  have X2_0 : ∀ (l3_2 : Int32), (f_Union_columnFor_J35 p1 zz_columnCount zz_readersOfColumn) = some (o_r, o_zz_columnCount, o_zz_readersOfColumn) → Wk X { frames := 0, cells := 0, slots := 0, locals := 0 } 4 D (va_A (w_Union_columnFor (cI := cI) (cJ := cJ) (cC := cC) (cZ := cZ) (cR := cR) a_z a_zb a_zr a_zc a_zq a_ze a_za a_zd zz_pieceCount zz_ruleCount zz_columnCount zz_readersOfColumn) (xs X).heap.size) 0 0 (GE X D (w_Union_columnFor (cI := cI) (cJ := cJ) (cC := cC) (cZ := cZ) (cR := cR) a_z a_zb a_zr a_zc a_zq a_ze a_za a_zd zz_pieceCount zz_ruleCount zz_columnCount zz_readersOfColumn) (fun (o : Option Value) (w : va_W) => o = some (.int o_r) ∧ w = w_Union_columnFor (cI := cI) (cJ := cJ) (cC := cC) (cZ := cZ) (cR := cR) a_z a_zb a_zr a_zc a_zq a_ze a_za a_zd zz_pieceCount zz_ruleCount o_zz_columnCount o_zz_readersOfColumn) 0 0) (w_Union_columnFor (cI := cI) (cJ := cJ) (cC := cC) (cZ := cZ) (cR := cR) a_z a_zb a_zr a_zc a_zq a_ze a_za a_zd zz_pieceCount zz_ruleCount zz_columnCount zz_readersOfColumn) [(3, .int l3_2), (0, .ref a_z), (1, .long p1)] [] 35 := by
    intro l3_2 h
    exact J35 l3_2 zz_columnCount zz_readersOfColumn h
  have X2_1 : ∀ (l3_2 : Int32), some (l3_2, zz_columnCount, zz_readersOfColumn) = some (o_r, o_zz_columnCount, o_zz_readersOfColumn) → Wk X { frames := 0, cells := 0, slots := 0, locals := 0 } 4 D (va_A (w_Union_columnFor (cI := cI) (cJ := cJ) (cC := cC) (cZ := cZ) (cR := cR) a_z a_zb a_zr a_zc a_zq a_ze a_za a_zd zz_pieceCount zz_ruleCount zz_columnCount zz_readersOfColumn) (xs X).heap.size) 0 0 (GE X D (w_Union_columnFor (cI := cI) (cJ := cJ) (cC := cC) (cZ := cZ) (cR := cR) a_z a_zb a_zr a_zc a_zq a_ze a_za a_zd zz_pieceCount zz_ruleCount zz_columnCount zz_readersOfColumn) (fun (o : Option Value) (w : va_W) => o = some (.int o_r) ∧ w = w_Union_columnFor (cI := cI) (cJ := cJ) (cC := cC) (cZ := cZ) (cR := cR) a_z a_zb a_zr a_zc a_zq a_ze a_za a_zd zz_pieceCount zz_ruleCount o_zz_columnCount o_zz_readersOfColumn) 0 0) (w_Union_columnFor (cI := cI) (cJ := cJ) (cC := cC) (cZ := cZ) (cR := cR) a_z a_zb a_zr a_zc a_zq a_ze a_za a_zd zz_pieceCount zz_ruleCount zz_columnCount zz_readersOfColumn) [(3, .int l3_2), (0, .ref a_z), (1, .long p1)] [] 27 := by
    intro l3_2 h
    refine k_iload_n C d_Union_columnFor_27 rfl 0 rfl rfl ?_
    exact k_iret C d_Union_columnFor_28 (tr1 h (fun t => (fun (o : Option Value) (w : va_W) => o = some (.int (t.1)) ∧ w = w_Union_columnFor (cI := cI) (cJ := cJ) (cC := cC) (cZ := cZ) (cR := cR) a_z a_zb a_zr a_zc a_zq a_ze a_za a_zd zz_pieceCount zz_ruleCount (t.2.1) (t.2.2)) (some (Value.int l3_2)) (w_Union_columnFor (cI := cI) (cJ := cJ) (cC := cC) (cZ := cZ) (cR := cR) a_z a_zb a_zr a_zc a_zq a_ze a_za a_zd zz_pieceCount zz_ruleCount zz_columnCount zz_readersOfColumn)) ⟨rfl, rfl⟩)
  have L2 : ∀ (kk2_0 : Int32 → Option (Int32 × Int32 × (Nat → Int64))) (kk2_1 : Int32 → Option (Int32 × Int32 × (Nat → Int64))) (hX2_0 : ∀ (l3_2 : Int32), kk2_0 l3_2 = some (o_r, o_zz_columnCount, o_zz_readersOfColumn) → Wk X { frames := 0, cells := 0, slots := 0, locals := 0 } 4 D (va_A (w_Union_columnFor (cI := cI) (cJ := cJ) (cC := cC) (cZ := cZ) (cR := cR) a_z a_zb a_zr a_zc a_zq a_ze a_za a_zd zz_pieceCount zz_ruleCount zz_columnCount zz_readersOfColumn) (xs X).heap.size) 0 0 (GE X D (w_Union_columnFor (cI := cI) (cJ := cJ) (cC := cC) (cZ := cZ) (cR := cR) a_z a_zb a_zr a_zc a_zq a_ze a_za a_zd zz_pieceCount zz_ruleCount zz_columnCount zz_readersOfColumn) (fun (o : Option Value) (w : va_W) => o = some (.int o_r) ∧ w = w_Union_columnFor (cI := cI) (cJ := cJ) (cC := cC) (cZ := cZ) (cR := cR) a_z a_zb a_zr a_zc a_zq a_ze a_za a_zd zz_pieceCount zz_ruleCount o_zz_columnCount o_zz_readersOfColumn) 0 0) (w_Union_columnFor (cI := cI) (cJ := cJ) (cC := cC) (cZ := cZ) (cR := cR) a_z a_zb a_zr a_zc a_zq a_ze a_za a_zd zz_pieceCount zz_ruleCount zz_columnCount zz_readersOfColumn) [(3, .int l3_2), (0, .ref a_z), (1, .long p1)] [] 35) (hX2_1 : ∀ (l3_2 : Int32), kk2_1 l3_2 = some (o_r, o_zz_columnCount, o_zz_readersOfColumn) → Wk X { frames := 0, cells := 0, slots := 0, locals := 0 } 4 D (va_A (w_Union_columnFor (cI := cI) (cJ := cJ) (cC := cC) (cZ := cZ) (cR := cR) a_z a_zb a_zr a_zc a_zq a_ze a_za a_zd zz_pieceCount zz_ruleCount zz_columnCount zz_readersOfColumn) (xs X).heap.size) 0 0 (GE X D (w_Union_columnFor (cI := cI) (cJ := cJ) (cC := cC) (cZ := cZ) (cR := cR) a_z a_zb a_zr a_zc a_zq a_ze a_za a_zd zz_pieceCount zz_ruleCount zz_columnCount zz_readersOfColumn) (fun (o : Option Value) (w : va_W) => o = some (.int o_r) ∧ w = w_Union_columnFor (cI := cI) (cJ := cJ) (cC := cC) (cZ := cZ) (cR := cR) a_z a_zb a_zr a_zc a_zq a_ze a_za a_zd zz_pieceCount zz_ruleCount o_zz_columnCount o_zz_readersOfColumn) 0 0) (w_Union_columnFor (cI := cI) (cJ := cJ) (cC := cC) (cZ := cZ) (cR := cR) a_z a_zb a_zr a_zc a_zq a_ze a_za a_zd zz_pieceCount zz_ruleCount zz_columnCount zz_readersOfColumn) [(3, .int l3_2), (0, .ref a_z), (1, .long p1)] [] 27) (n_2 : Nat) (l3_2 : Int32), f_Union_columnFor_L2 zz_columnCount zz_readersOfColumn p1 kk2_0 kk2_1 n_2 l3_2 = some (o_r, o_zz_columnCount, o_zz_readersOfColumn) → Wk X { frames := 0, cells := 0, slots := 0, locals := 0 } 4 D (va_A (w_Union_columnFor (cI := cI) (cJ := cJ) (cC := cC) (cZ := cZ) (cR := cR) a_z a_zb a_zr a_zc a_zq a_ze a_za a_zd zz_pieceCount zz_ruleCount zz_columnCount zz_readersOfColumn) (xs X).heap.size) 0 0 (GE X D (w_Union_columnFor (cI := cI) (cJ := cJ) (cC := cC) (cZ := cZ) (cR := cR) a_z a_zb a_zr a_zc a_zq a_ze a_za a_zd zz_pieceCount zz_ruleCount zz_columnCount zz_readersOfColumn) (fun (o : Option Value) (w : va_W) => o = some (.int o_r) ∧ w = w_Union_columnFor (cI := cI) (cJ := cJ) (cC := cC) (cZ := cZ) (cR := cR) a_z a_zb a_zr a_zc a_zq a_ze a_za a_zd zz_pieceCount zz_ruleCount o_zz_columnCount o_zz_readersOfColumn) 0 0) (w_Union_columnFor (cI := cI) (cJ := cJ) (cC := cC) (cZ := cZ) (cR := cR) a_z a_zb a_zr a_zc a_zq a_ze a_za a_zd zz_pieceCount zz_ruleCount zz_columnCount zz_readersOfColumn) [(3, .int l3_2), (0, .ref a_z), (1, .long p1)] [] 2 := by
    intro kk2_0 kk2_1 hX2_0 hX2_1 n_2
    induction n_2 with
    | zero =>
      intro l3_2 h
      exact nS h
    | succ n_2 ih2 =>
      intro l3_2 h
      replace h := (f_Union_columnFor_L2_s _ _ _ _ _ _ _).symm.trans h
      refine k_iload_n C d_Union_columnFor_2 rfl 0 rfl rfl ?_
      refine k_aload_n C d_Union_columnFor_3 rfl 1 rfl rfl ?_
      refine k_getf C d_Union_columnFor_4 hin_Union rfl 9 (by decide) mw121 0 rfl rfl rfl ?_
      refine k_icmp_ge (tgt := 35) C d_Union_columnFor_7 (by decide) rfl (fun c3 => ?_) (fun c3 => ?_)
      · replace h := gi_t h c3
        exact hX2_0 l3_2 h
      · replace h := gi_f h c3
        refine k_iload_n C d_Union_columnFor_10 rfl 0 rfl rfl ?_
        refine k_bipush C d_Union_columnFor_11 (v := (95 : Int32)) (by decide) rfl ?_
        refine k_icmp_ge (tgt := 35) C d_Union_columnFor_13 (by decide) rfl (fun c4 => ?_) (fun c4 => ?_)
        · replace h := gi_t h c4
          exact hX2_0 l3_2 h
        · replace h := gi_f h c4
          refine k_aload_n C d_Union_columnFor_16 rfl 1 rfl rfl ?_
          refine k_getf C d_Union_columnFor_17 hin_Union rfl 3 (by decide) mw122 0 rfl rfl rfl ?_
          refine k_iload_n C d_Union_columnFor_20 rfl 0 rfl rfl ?_
          have g5 := gd1 h
          replace h := gd2 h
          refine k_lald C d_Union_columnFor_21 1 1 rfl rfl (inB_in g5) rfl ?_
          refine k_lload_n C d_Union_columnFor_22 rfl 2 rfl rfl ?_
          refine k_lcmp C d_Union_columnFor_23 rfl ?_
          refine k_if_ne (tgt := 29) C d_Union_columnFor_24 (by decide) rfl (fun c6 => ?_) (fun c6 => ?_)
          · replace h := gi_f h c6
            refine k_iinc (lv' := [(3, .int (l3_2 + 1)), (0, .ref a_z), (1, .long p1)]) C d_Union_columnFor_29 0 rfl rfl (by decide) rfl rfl ?_
            refine k_goto (tgt := 2) C d_Union_columnFor_32 (by decide) ?_
            exact ih2 (l3_2 + 1) h
          · replace h := gi_t h c6
            exact hX2_1 l3_2 h
  exact L2 (fun l3_2 => (f_Union_columnFor_J35 p1 zz_columnCount zz_readersOfColumn)) (fun l3_2 => some (l3_2, zz_columnCount, zz_readersOfColumn)) X2_0 X2_1 fu (0 : Int32) h
theorem d_Union_groupSymbols_0 : decode b_Union_groupSymbols 0 = .ok (.aload_n 0, 1) := by decide +kernel
theorem d_Union_groupSymbols_1 : decode b_Union_groupSymbols 1 = .ok (.iconst 0, 1) := by decide +kernel
theorem d_Union_groupSymbols_2 : decode b_Union_groupSymbols 2 = .ok (.putfield 75, 3) := by decide +kernel
theorem d_Union_groupSymbols_5 : decode b_Union_groupSymbols 5 = .ok (.iconst 0, 1) := by decide +kernel
theorem d_Union_groupSymbols_6 : decode b_Union_groupSymbols 6 = .ok (.istore_n 1, 1) := by decide +kernel
theorem d_Union_groupSymbols_7 : decode b_Union_groupSymbols 7 = .ok (.iload_n 1, 1) := by decide +kernel
theorem d_Union_groupSymbols_8 : decode b_Union_groupSymbols 8 = .ok (.bipush 95, 2) := by decide +kernel
theorem d_Union_groupSymbols_10 : decode b_Union_groupSymbols 10 = .ok (.if_icmp .ge 25, 3) := by decide +kernel
theorem d_Union_groupSymbols_13 : decode b_Union_groupSymbols 13 = .ok (.aload_n 0, 1) := by decide +kernel
theorem d_Union_groupSymbols_14 : decode b_Union_groupSymbols 14 = .ok (.getfield 18, 3) := by decide +kernel
theorem d_Union_groupSymbols_17 : decode b_Union_groupSymbols 17 = .ok (.iload_n 1, 1) := by decide +kernel
theorem d_Union_groupSymbols_18 : decode b_Union_groupSymbols 18 = .ok (.aload_n 0, 1) := by decide +kernel
theorem d_Union_groupSymbols_19 : decode b_Union_groupSymbols 19 = .ok (.aload_n 0, 1) := by decide +kernel
theorem d_Union_groupSymbols_20 : decode b_Union_groupSymbols 20 = .ok (.getfield 15, 3) := by decide +kernel
theorem d_Union_groupSymbols_23 : decode b_Union_groupSymbols 23 = .ok (.iload_n 1, 1) := by decide +kernel
theorem d_Union_groupSymbols_24 : decode b_Union_groupSymbols 24 = .ok (.laload, 1) := by decide +kernel
theorem d_Union_groupSymbols_25 : decode b_Union_groupSymbols 25 = .ok (.invokevirtual 78, 3) := by decide +kernel
theorem d_Union_groupSymbols_28 : decode b_Union_groupSymbols 28 = .ok (.iastore, 1) := by decide +kernel
theorem d_Union_groupSymbols_29 : decode b_Union_groupSymbols 29 = .ok (.iinc 1 1, 3) := by decide +kernel
theorem d_Union_groupSymbols_32 : decode b_Union_groupSymbols 32 = .ok (.goto (-25), 3) := by decide +kernel
theorem d_Union_groupSymbols_35 : decode b_Union_groupSymbols 35 = .ok (.return_, 1) := by decide +kernel
abbrev w_Union_groupSymbols {cI cJ cC cZ cR : ClassId} (a_z a_zb a_zr a_zc a_zq a_ze a_za a_zd : Nat) (zz_pieceCount : Int32) (zz_ruleCount : Int32) (zz_columnCount : Int32) (zz_readersOf : Nat → Int64) (zz_columnOf : Nat → Int32) (zz_readersOfColumn : Nat → Int64) : va_W := [(a_z, .inr (4, [.ref a_zb, .ref a_zr, .ref a_zc, .ref a_zq, .ref a_ze, .ref a_za, .ref a_zd, .int zz_pieceCount, .int zz_ruleCount, .int zz_columnCount])), (a_zr, .inl (cJ, 95, .inr (.inl zz_readersOf))), (a_zc, .inl (cI, 95, .inl zz_columnOf)), (a_zq, .inl (cJ, 95, .inr (.inl zz_readersOfColumn)))]
def f_Union_groupSymbols_L7 (zz_readersOf : Nat → Int64) (fu : Nat) (kk7_0 : Int32 → Int32 → (Nat → Int32) → (Nat → Int64) → Option (Int32 × (Nat → Int32) × (Nat → Int64))) : Nat → Int32 → Int32 → (Nat → Int32) → (Nat → Int64) → Option (Int32 × (Nat → Int32) × (Nat → Int64))
  | 0, _, _, _, _ => none
  | n_7 + 1, l1_7, zz_columnCount_7, zz_columnOf_7, zz_readersOfColumn_7 => (if (95 : Int32) ≤ l1_7 then (kk7_0 l1_7 zz_columnCount_7 zz_columnOf_7 zz_readersOfColumn_7) else (if inB l1_7 95 = true then (Option.bind (f_Union_columnFor fu (zz_readersOf l1_7.toNatClampNeg) zz_columnCount_7 zz_readersOfColumn_7) fun (r3, yzz_columnCount_4, yzz_readersOfColumn_5) => (if inB l1_7 95 = true then (f_Union_groupSymbols_L7 zz_readersOf fu kk7_0 n_7 (l1_7 + 1) yzz_columnCount_4 (upd zz_columnOf_7 l1_7.toNatClampNeg r3) yzz_readersOfColumn_5) else none)) else none))
theorem f_Union_groupSymbols_L7_s (zz_readersOf : Nat → Int64) (fu : Nat) (kk7_0 : Int32 → Int32 → (Nat → Int32) → (Nat → Int64) → Option (Int32 × (Nat → Int32) × (Nat → Int64))) (n_7 : Nat) (l1_7 : Int32) (zz_columnCount_7 : Int32) (zz_columnOf_7 : Nat → Int32) (zz_readersOfColumn_7 : Nat → Int64) : f_Union_groupSymbols_L7 zz_readersOf fu kk7_0 (n_7 + 1) l1_7 zz_columnCount_7 zz_columnOf_7 zz_readersOfColumn_7 = (if (95 : Int32) ≤ l1_7 then (kk7_0 l1_7 zz_columnCount_7 zz_columnOf_7 zz_readersOfColumn_7) else (if inB l1_7 95 = true then (Option.bind (f_Union_columnFor fu (zz_readersOf l1_7.toNatClampNeg) zz_columnCount_7 zz_readersOfColumn_7) fun (r3, yzz_columnCount_4, yzz_readersOfColumn_5) => (if inB l1_7 95 = true then (f_Union_groupSymbols_L7 zz_readersOf fu kk7_0 n_7 (l1_7 + 1) yzz_columnCount_4 (upd zz_columnOf_7 l1_7.toNatClampNeg r3) yzz_readersOfColumn_5) else none)) else none)) := rfl
def f_Union_groupSymbols (fu : Nat) (zz_readersOf : Nat → Int64) (zz_columnOf : Nat → Int32) (zz_readersOfColumn : Nat → Int64) : Option (Int32 × (Nat → Int32) × (Nat → Int64)) := (f_Union_groupSymbols_L7 zz_readersOf fu (fun l1_7 zz_columnCount_7 zz_columnOf_7 zz_readersOfColumn_7 => some (zz_columnCount_7, zz_columnOf_7, zz_readersOfColumn_7)) fu (0 : Int32) (0 : Int32) zz_columnOf zz_readersOfColumn)
set_option maxRecDepth 100000 in
set_option maxHeartbeats 4000000 in
theorem c_Union_groupSymbols {l : Launch} {D : va_G} {cI cJ cC cZ cR : ClassId} (fu : Nat) (a_z a_zb a_zr a_zc a_zq a_ze a_za a_zd : Nat)   (zz_pieceCount : Int32) (zz_ruleCount : Int32) (zz_columnCount : Int32) (zz_readersOf : Nat → Int64) (zz_columnOf : Nat → Int32) (zz_readersOfColumn : Nat → Int64)  (o_zz_columnCount : Int32) (o_zz_columnOf : Nat → Int32) (o_zz_readersOfColumn : Nat → Int64) (h : f_Union_groupSymbols fu zz_readersOf zz_columnOf zz_readersOfColumn = some (o_zz_columnCount, o_zz_columnOf, o_zz_readersOfColumn)) : GM l D (tysL cI cJ cC cZ cR) y_Union_groupSymbols b_Union_groupSymbols 2 none { frames := 1, cells := 0, slots := 0, locals := 23 } [.ref a_z] (w_Union_groupSymbols (cI := cI) (cJ := cJ) (cC := cC) (cZ := cZ) (cR := cR) a_z a_zb a_zr a_zc a_zq a_ze a_za a_zd zz_pieceCount zz_ruleCount zz_columnCount zz_readersOf zz_columnOf zz_readersOfColumn) (fun (o : Option Value) (w : va_W) => o = none ∧ w = w_Union_groupSymbols (cI := cI) (cJ := cJ) (cC := cC) (cZ := cZ) (cR := cR) a_z a_zb a_zr a_zc a_zq a_ze a_za a_zd zz_pieceCount zz_ruleCount o_zz_columnCount zz_readersOf o_zz_columnOf o_zz_readersOfColumn) := by
  refine GM.of (by decide) (Nat.le_of_ble_eq_true rfl) (lv := [(0, .ref a_z)]) rfl ?_
  intro X hX C
  subst hX
  refine k_aload_n C d_Union_groupSymbols_0 rfl 0 rfl rfl ?_
  refine k_iconst C d_Union_groupSymbols_1 (v := (0 : Int32)) (by decide) rfl ?_
  refine k_putf (ws' := w_Union_groupSymbols (cI := cI) (cJ := cJ) (cC := cC) (cZ := cZ) (cR := cR) a_z a_zb a_zr a_zc a_zq a_ze a_za a_zd zz_pieceCount zz_ruleCount (0 : Int32) zz_readersOf zz_columnOf zz_readersOfColumn) C d_Union_groupSymbols_2 hin_Union hty_Union hnn_Union rfl 9 (by decide) mw121 rfl 0 rfl rfl rfl (Nat.le_of_ble_eq_true rfl) rfl rfl ?_
  refine k_iconst C d_Union_groupSymbols_5 (v := (0 : Int32)) (by decide) rfl ?_
  refine k_istore_n (lv' := [(1, .int (0 : Int32)), (0, .ref a_z)]) C d_Union_groupSymbols_6 rfl (by decide) rfl rfl ?_
  have X7_0 : ∀ (l1_7 : Int32) (zz_columnCount_7 : Int32) (zz_columnOf_7 : Nat → Int32) (zz_readersOfColumn_7 : Nat → Int64), some (zz_columnCount_7, zz_columnOf_7, zz_readersOfColumn_7) = some (o_zz_columnCount, o_zz_columnOf, o_zz_readersOfColumn) → Wk X { frames := 1, cells := 0, slots := 0, locals := 23 } 2 D (va_A (w_Union_groupSymbols (cI := cI) (cJ := cJ) (cC := cC) (cZ := cZ) (cR := cR) a_z a_zb a_zr a_zc a_zq a_ze a_za a_zd zz_pieceCount zz_ruleCount zz_columnCount zz_readersOf zz_columnOf zz_readersOfColumn) (xs X).heap.size) 0 0 (GE X D (w_Union_groupSymbols (cI := cI) (cJ := cJ) (cC := cC) (cZ := cZ) (cR := cR) a_z a_zb a_zr a_zc a_zq a_ze a_za a_zd zz_pieceCount zz_ruleCount zz_columnCount zz_readersOf zz_columnOf zz_readersOfColumn) (fun (o : Option Value) (w : va_W) => o = none ∧ w = w_Union_groupSymbols (cI := cI) (cJ := cJ) (cC := cC) (cZ := cZ) (cR := cR) a_z a_zb a_zr a_zc a_zq a_ze a_za a_zd zz_pieceCount zz_ruleCount o_zz_columnCount zz_readersOf o_zz_columnOf o_zz_readersOfColumn) 0 0) (w_Union_groupSymbols (cI := cI) (cJ := cJ) (cC := cC) (cZ := cZ) (cR := cR) a_z a_zb a_zr a_zc a_zq a_ze a_za a_zd zz_pieceCount zz_ruleCount zz_columnCount_7 zz_readersOf zz_columnOf_7 zz_readersOfColumn_7) [(1, .int l1_7), (0, .ref a_z)] [] 35 := by
    intro l1_7 zz_columnCount_7 zz_columnOf_7 zz_readersOfColumn_7 h
    exact k_vret C d_Union_groupSymbols_35 (tr1 h (fun t => (fun (o : Option Value) (w : va_W) => o = none ∧ w = w_Union_groupSymbols (cI := cI) (cJ := cJ) (cC := cC) (cZ := cZ) (cR := cR) a_z a_zb a_zr a_zc a_zq a_ze a_za a_zd zz_pieceCount zz_ruleCount (t.1) zz_readersOf (t.2.1) (t.2.2)) none (w_Union_groupSymbols (cI := cI) (cJ := cJ) (cC := cC) (cZ := cZ) (cR := cR) a_z a_zb a_zr a_zc a_zq a_ze a_za a_zd zz_pieceCount zz_ruleCount zz_columnCount_7 zz_readersOf zz_columnOf_7 zz_readersOfColumn_7)) ⟨rfl, rfl⟩)
  have L7 : ∀ (kk7_0 : Int32 → Int32 → (Nat → Int32) → (Nat → Int64) → Option (Int32 × (Nat → Int32) × (Nat → Int64))) (hX7_0 : ∀ (l1_7 : Int32) (zz_columnCount_7 : Int32) (zz_columnOf_7 : Nat → Int32) (zz_readersOfColumn_7 : Nat → Int64), kk7_0 l1_7 zz_columnCount_7 zz_columnOf_7 zz_readersOfColumn_7 = some (o_zz_columnCount, o_zz_columnOf, o_zz_readersOfColumn) → Wk X { frames := 1, cells := 0, slots := 0, locals := 23 } 2 D (va_A (w_Union_groupSymbols (cI := cI) (cJ := cJ) (cC := cC) (cZ := cZ) (cR := cR) a_z a_zb a_zr a_zc a_zq a_ze a_za a_zd zz_pieceCount zz_ruleCount zz_columnCount zz_readersOf zz_columnOf zz_readersOfColumn) (xs X).heap.size) 0 0 (GE X D (w_Union_groupSymbols (cI := cI) (cJ := cJ) (cC := cC) (cZ := cZ) (cR := cR) a_z a_zb a_zr a_zc a_zq a_ze a_za a_zd zz_pieceCount zz_ruleCount zz_columnCount zz_readersOf zz_columnOf zz_readersOfColumn) (fun (o : Option Value) (w : va_W) => o = none ∧ w = w_Union_groupSymbols (cI := cI) (cJ := cJ) (cC := cC) (cZ := cZ) (cR := cR) a_z a_zb a_zr a_zc a_zq a_ze a_za a_zd zz_pieceCount zz_ruleCount o_zz_columnCount zz_readersOf o_zz_columnOf o_zz_readersOfColumn) 0 0) (w_Union_groupSymbols (cI := cI) (cJ := cJ) (cC := cC) (cZ := cZ) (cR := cR) a_z a_zb a_zr a_zc a_zq a_ze a_za a_zd zz_pieceCount zz_ruleCount zz_columnCount_7 zz_readersOf zz_columnOf_7 zz_readersOfColumn_7) [(1, .int l1_7), (0, .ref a_z)] [] 35) (n_7 : Nat) (l1_7 : Int32) (zz_columnCount_7 : Int32) (zz_columnOf_7 : Nat → Int32) (zz_readersOfColumn_7 : Nat → Int64), f_Union_groupSymbols_L7 zz_readersOf fu kk7_0 n_7 l1_7 zz_columnCount_7 zz_columnOf_7 zz_readersOfColumn_7 = some (o_zz_columnCount, o_zz_columnOf, o_zz_readersOfColumn) → Wk X { frames := 1, cells := 0, slots := 0, locals := 23 } 2 D (va_A (w_Union_groupSymbols (cI := cI) (cJ := cJ) (cC := cC) (cZ := cZ) (cR := cR) a_z a_zb a_zr a_zc a_zq a_ze a_za a_zd zz_pieceCount zz_ruleCount zz_columnCount zz_readersOf zz_columnOf zz_readersOfColumn) (xs X).heap.size) 0 0 (GE X D (w_Union_groupSymbols (cI := cI) (cJ := cJ) (cC := cC) (cZ := cZ) (cR := cR) a_z a_zb a_zr a_zc a_zq a_ze a_za a_zd zz_pieceCount zz_ruleCount zz_columnCount zz_readersOf zz_columnOf zz_readersOfColumn) (fun (o : Option Value) (w : va_W) => o = none ∧ w = w_Union_groupSymbols (cI := cI) (cJ := cJ) (cC := cC) (cZ := cZ) (cR := cR) a_z a_zb a_zr a_zc a_zq a_ze a_za a_zd zz_pieceCount zz_ruleCount o_zz_columnCount zz_readersOf o_zz_columnOf o_zz_readersOfColumn) 0 0) (w_Union_groupSymbols (cI := cI) (cJ := cJ) (cC := cC) (cZ := cZ) (cR := cR) a_z a_zb a_zr a_zc a_zq a_ze a_za a_zd zz_pieceCount zz_ruleCount zz_columnCount_7 zz_readersOf zz_columnOf_7 zz_readersOfColumn_7) [(1, .int l1_7), (0, .ref a_z)] [] 7 := by
    intro kk7_0 hX7_0 n_7
    induction n_7 with
    | zero =>
      intro l1_7 zz_columnCount_7 zz_columnOf_7 zz_readersOfColumn_7 h
      exact nS h
    | succ n_7 ih7 =>
      intro l1_7 zz_columnCount_7 zz_columnOf_7 zz_readersOfColumn_7 h
      replace h := (f_Union_groupSymbols_L7_s _ _ _ _ _ _ _ _).symm.trans h
      refine k_iload_n C d_Union_groupSymbols_7 rfl 0 rfl rfl ?_
      refine k_bipush C d_Union_groupSymbols_8 (v := (95 : Int32)) (by decide) rfl ?_
      refine k_icmp_ge (tgt := 35) C d_Union_groupSymbols_10 (by decide) rfl (fun c1 => ?_) (fun c1 => ?_)
      · replace h := gi_t h c1
        exact hX7_0 l1_7 zz_columnCount_7 zz_columnOf_7 zz_readersOfColumn_7 h
      · replace h := gi_f h c1
        refine k_aload_n C d_Union_groupSymbols_13 rfl 1 rfl rfl ?_
        refine k_getf C d_Union_groupSymbols_14 hin_Union rfl 2 (by decide) mw123 0 rfl rfl rfl ?_
        refine k_iload_n C d_Union_groupSymbols_17 rfl 0 rfl rfl ?_
        refine k_aload_n C d_Union_groupSymbols_18 rfl 1 rfl rfl ?_
        refine k_aload_n C d_Union_groupSymbols_19 rfl 1 rfl rfl ?_
        refine k_getf C d_Union_groupSymbols_20 hin_Union rfl 1 (by decide) mw105 0 rfl rfl rfl ?_
        refine k_iload_n C d_Union_groupSymbols_23 rfl 0 rfl rfl ?_
        have g2 := gd1 h
        replace h := gd2 h
        refine k_lald C d_Union_groupSymbols_24 1 1 rfl rfl (inB_in g2) rfl ?_
        obtain ⟨⟨r3, yzz_columnCount_4, yzz_readersOfColumn_5⟩, hc6, h⟩ := bd h
        refine k_callVd (As := [.long (zz_readersOf l1_7.toNatClampNeg)]) (st := [.int l1_7, .ref a_zc]) (st' := [.int r3, .int l1_7, .ref a_zc]) (wn := w_Union_groupSymbols (cI := cI) (cJ := cJ) (cC := cC) (cZ := cZ) (cR := cR) a_z a_zb a_zr a_zc a_zq a_ze a_za a_zd zz_pieceCount zz_ruleCount yzz_columnCount_4 zz_readersOf zz_columnOf_7 yzz_readersOfColumn_5) C d_Union_groupSymbols_25 (c_Union_columnFor fu a_z a_zb a_zr a_zc a_zq a_ze a_za a_zd zz_pieceCount zz_ruleCount zz_columnCount_7 zz_readersOfColumn_7 (zz_readersOf l1_7.toNatClampNeg) r3 yzz_columnCount_4 yzz_readersOfColumn_5 hc6) co_Union_columnFor cov_Union_columnFor mw124 0 rfl rfl (by decide) (by decide) (Nat.le_of_ble_eq_true rfl) rfl [0, 3] [1, 2] [2, 0, 1, 3] rfl (by decide +kernel) rfl (by decide +kernel) (by decide +kernel) rfl (by decide +kernel) rfl rfl ?_
        have g7 := gd1 h
        replace h := gd2 h
        refine k_iast (ws' := w_Union_groupSymbols (cI := cI) (cJ := cJ) (cC := cC) (cZ := cZ) (cR := cR) a_z a_zb a_zr a_zc a_zq a_ze a_za a_zd zz_pieceCount zz_ruleCount yzz_columnCount_4 zz_readersOf (upd zz_columnOf_7 l1_7.toNatClampNeg r3) yzz_readersOfColumn_5) C d_Union_groupSymbols_28 2 0 rfl rfl (inB_in g7) rfl rfl ?_
        refine k_iinc (lv' := [(1, .int (l1_7 + 1)), (0, .ref a_z)]) C d_Union_groupSymbols_29 0 rfl rfl (by decide) rfl rfl ?_
        refine k_goto (tgt := 7) C d_Union_groupSymbols_32 (by decide) ?_
        exact ih7 (l1_7 + 1) yzz_columnCount_4 (upd zz_columnOf_7 l1_7.toNatClampNeg r3) yzz_readersOfColumn_5 h
  exact L7 (fun l1_7 zz_columnCount_7 zz_columnOf_7 zz_readersOfColumn_7 => some (zz_columnCount_7, zz_columnOf_7, zz_readersOfColumn_7)) X7_0 fu (0 : Int32) (0 : Int32) zz_columnOf zz_readersOfColumn h
theorem d_Union_columnOfByte_0 : decode b_Union_columnOfByte 0 = .ok (.aload_n 0, 1) := by decide +kernel
theorem d_Union_columnOfByte_1 : decode b_Union_columnOfByte 1 = .ok (.getfield 18, 3) := by decide +kernel
theorem d_Union_columnOfByte_4 : decode b_Union_columnOfByte 4 = .ok (.iload_n 1, 1) := by decide +kernel
theorem d_Union_columnOfByte_5 : decode b_Union_columnOfByte 5 = .ok (.invokestatic 82, 3) := by decide +kernel
theorem d_Union_columnOfByte_8 : decode b_Union_columnOfByte 8 = .ok (.iaload, 1) := by decide +kernel
theorem d_Union_columnOfByte_9 : decode b_Union_columnOfByte 9 = .ok (.ireturn, 1) := by decide +kernel
abbrev w_Union_columnOfByte {cI cJ cC cZ cR : ClassId} (a_z a_zb a_zr a_zc a_zq a_ze a_za a_zd : Nat) (zz_pieceCount : Int32) (zz_ruleCount : Int32) (zz_columnCount : Int32) (zz_columnOf : Nat → Int32) : va_W := [(a_z, .inr (4, [.ref a_zb, .ref a_zr, .ref a_zc, .ref a_zq, .ref a_ze, .ref a_za, .ref a_zd, .int zz_pieceCount, .int zz_ruleCount, .int zz_columnCount])), (a_zc, .inl (cI, 95, .inl zz_columnOf))]
def f_Union_columnOfByte (p1 : Int32) (zz_columnOf : Nat → Int32) : Option (Int32) := (Option.bind (f_G_symbolOf p1) fun r1 => (if inB r1 95 = true then some (zz_columnOf r1.toNatClampNeg) else none))
set_option maxRecDepth 100000 in
set_option maxHeartbeats 4000000 in
theorem c_Union_columnOfByte {l : Launch} {D : va_G} {cI cJ cC cZ cR : ClassId} (fu : Nat) (a_z a_zb a_zr a_zc a_zq a_ze a_za a_zd : Nat)   (zz_pieceCount : Int32) (zz_ruleCount : Int32) (zz_columnCount : Int32) (zz_columnOf : Nat → Int32) (p1 : Int32) (o_r : Int32) (h : f_Union_columnOfByte p1 zz_columnOf = some o_r) : GM l D (tysL cI cJ cC cZ cR) y_Union_columnOfByte b_Union_columnOfByte 2 (some (.int)) { frames := 1, cells := 0, slots := 0, locals := 20 } [.ref a_z, .int p1] (w_Union_columnOfByte (cI := cI) (cJ := cJ) (cC := cC) (cZ := cZ) (cR := cR) a_z a_zb a_zr a_zc a_zq a_ze a_za a_zd zz_pieceCount zz_ruleCount zz_columnCount zz_columnOf) (fun (o : Option Value) (w : va_W) => o = some (.int o_r) ∧ w = w_Union_columnOfByte (cI := cI) (cJ := cJ) (cC := cC) (cZ := cZ) (cR := cR) a_z a_zb a_zr a_zc a_zq a_ze a_za a_zd zz_pieceCount zz_ruleCount zz_columnCount zz_columnOf) := by
  refine GM.of (by decide) (Nat.le_of_ble_eq_true rfl) (lv := [(0, .ref a_z), (1, .int p1)]) rfl ?_
  intro X hX C
  subst hX
  refine k_aload_n C d_Union_columnOfByte_0 rfl 0 rfl rfl ?_
  refine k_getf C d_Union_columnOfByte_1 hin_Union rfl 2 (by decide) mw123 0 rfl rfl rfl ?_
  refine k_iload_n C d_Union_columnOfByte_4 rfl 1 rfl rfl ?_
  obtain ⟨r1, hc2, h⟩ := bd h
  refine k_callSNd (As := [.int p1]) (st := [.ref a_zc]) (st' := [.int r1, .ref a_zc]) (wn := w_Union_columnOfByte (cI := cI) (cJ := cJ) (cC := cC) (cZ := cZ) (cR := cR) a_z a_zb a_zr a_zc a_zq a_ze a_za a_zd zz_pieceCount zz_ruleCount zz_columnCount zz_columnOf) C d_Union_columnOfByte_5 (c_G_symbolOf fu p1 r1 hc2) co_G_symbolOf cos_G_symbolOf mw125 (by decide) (by decide) (Nat.le_of_ble_eq_true rfl) rfl [] [0, 1] [0, 1] rfl (by decide +kernel) rfl (by decide +kernel) (by decide +kernel) rfl (by decide +kernel) rfl rfl ?_
  have g3 := gd1 h
  replace h := gd2 h
  refine k_iald C d_Union_columnOfByte_8 1 0 rfl rfl (inB_in g3) rfl ?_
  exact k_iret C d_Union_columnOfByte_9 (tr1 h (fun t => (fun (o : Option Value) (w : va_W) => o = some (.int (t)) ∧ w = w_Union_columnOfByte (cI := cI) (cJ := cJ) (cC := cC) (cZ := cZ) (cR := cR) a_z a_zb a_zr a_zc a_zq a_ze a_za a_zd zz_pieceCount zz_ruleCount zz_columnCount zz_columnOf) (some (Value.int (zz_columnOf r1.toNatClampNeg))) (w_Union_columnOfByte (cI := cI) (cJ := cJ) (cC := cC) (cZ := cZ) (cR := cR) a_z a_zb a_zr a_zc a_zq a_ze a_za a_zd zz_pieceCount zz_ruleCount zz_columnCount zz_columnOf)) ⟨rfl, rfl⟩)
theorem d_Union_behindAll_0 : decode b_Union_behindAll 0 = .ok (.lconst 0, 1) := by decide +kernel
theorem d_Union_behindAll_1 : decode b_Union_behindAll 1 = .ok (.lstore_n 3, 1) := by decide +kernel
theorem d_Union_behindAll_2 : decode b_Union_behindAll 2 = .ok (.iconst 0, 1) := by decide +kernel
theorem d_Union_behindAll_3 : decode b_Union_behindAll 3 = .ok (.istore 5, 2) := by decide +kernel
theorem d_Union_behindAll_5 : decode b_Union_behindAll 5 = .ok (.iload 5, 2) := by decide +kernel
theorem d_Union_behindAll_7 : decode b_Union_behindAll 7 = .ok (.bipush 60, 2) := by decide +kernel
theorem d_Union_behindAll_9 : decode b_Union_behindAll 9 = .ok (.if_icmp .gt 30, 3) := by decide +kernel
theorem d_Union_behindAll_12 : decode b_Union_behindAll 12 = .ok (.lload_n 1, 1) := by decide +kernel
theorem d_Union_behindAll_13 : decode b_Union_behindAll 13 = .ok (.iload 5, 2) := by decide +kernel
theorem d_Union_behindAll_15 : decode b_Union_behindAll 15 = .ok (.lushr, 1) := by decide +kernel
theorem d_Union_behindAll_16 : decode b_Union_behindAll 16 = .ok (.lconst 1, 1) := by decide +kernel
theorem d_Union_behindAll_17 : decode b_Union_behindAll 17 = .ok (.land, 1) := by decide +kernel
theorem d_Union_behindAll_18 : decode b_Union_behindAll 18 = .ok (.lconst 0, 1) := by decide +kernel
theorem d_Union_behindAll_19 : decode b_Union_behindAll 19 = .ok (.lcmp, 1) := by decide +kernel
theorem d_Union_behindAll_20 : decode b_Union_behindAll 20 = .ok (.ifCond .eq 13, 3) := by decide +kernel
theorem d_Union_behindAll_23 : decode b_Union_behindAll 23 = .ok (.lload_n 3, 1) := by decide +kernel
theorem d_Union_behindAll_24 : decode b_Union_behindAll 24 = .ok (.aload_n 0, 1) := by decide +kernel
theorem d_Union_behindAll_25 : decode b_Union_behindAll 25 = .ok (.getfield 9, 3) := by decide +kernel
theorem d_Union_behindAll_28 : decode b_Union_behindAll 28 = .ok (.iload 5, 2) := by decide +kernel
theorem d_Union_behindAll_30 : decode b_Union_behindAll 30 = .ok (.laload, 1) := by decide +kernel
theorem d_Union_behindAll_31 : decode b_Union_behindAll 31 = .ok (.lor, 1) := by decide +kernel
theorem d_Union_behindAll_32 : decode b_Union_behindAll 32 = .ok (.lstore_n 3, 1) := by decide +kernel
theorem d_Union_behindAll_33 : decode b_Union_behindAll 33 = .ok (.iinc 5 1, 3) := by decide +kernel
theorem d_Union_behindAll_36 : decode b_Union_behindAll 36 = .ok (.goto (-31), 3) := by decide +kernel
theorem d_Union_behindAll_39 : decode b_Union_behindAll 39 = .ok (.lload_n 3, 1) := by decide +kernel
theorem d_Union_behindAll_40 : decode b_Union_behindAll 40 = .ok (.lreturn, 1) := by decide +kernel
abbrev w_Union_behindAll {cI cJ cC cZ cR : ClassId} (a_z a_zb a_zr a_zc a_zq a_ze a_za a_zd : Nat) (zz_pieceCount : Int32) (zz_ruleCount : Int32) (zz_columnCount : Int32) (zz_behind : Nat → Int64) : va_W := [(a_z, .inr (4, [.ref a_zb, .ref a_zr, .ref a_zc, .ref a_zq, .ref a_ze, .ref a_za, .ref a_zd, .int zz_pieceCount, .int zz_ruleCount, .int zz_columnCount])), (a_zb, .inl (cJ, 61, .inr (.inl zz_behind)))]
def f_Union_behindAll_L5 (zz_behind : Nat → Int64) (p1 : Int64) (kk5_0 : Int32 → Int64 → Option (Int64)) : Nat → Int32 → Int64 → Option (Int64)
  | 0, _, _ => none
  | n_5 + 1, l5_5, l3_5 => (if (60 : Int32) < l5_5 then (kk5_0 l5_5 l3_5) else (if (lg_cmp ((jlushr p1 l5_5) &&& (1 : Int64)) (0 : Int64)) = 0 then (f_Union_behindAll_L5 zz_behind p1 kk5_0 n_5 (l5_5 + 1) l3_5) else (if inB l5_5 61 = true then (f_Union_behindAll_L5 zz_behind p1 kk5_0 n_5 (l5_5 + 1) (l3_5 ||| (zz_behind l5_5.toNatClampNeg))) else none)))
theorem f_Union_behindAll_L5_s (zz_behind : Nat → Int64) (p1 : Int64) (kk5_0 : Int32 → Int64 → Option (Int64)) (n_5 : Nat) (l5_5 : Int32) (l3_5 : Int64) : f_Union_behindAll_L5 zz_behind p1 kk5_0 (n_5 + 1) l5_5 l3_5 = (if (60 : Int32) < l5_5 then (kk5_0 l5_5 l3_5) else (if (lg_cmp ((jlushr p1 l5_5) &&& (1 : Int64)) (0 : Int64)) = 0 then (f_Union_behindAll_L5 zz_behind p1 kk5_0 n_5 (l5_5 + 1) l3_5) else (if inB l5_5 61 = true then (f_Union_behindAll_L5 zz_behind p1 kk5_0 n_5 (l5_5 + 1) (l3_5 ||| (zz_behind l5_5.toNatClampNeg))) else none))) := rfl
def f_Union_behindAll (fu : Nat) (p1 : Int64) (zz_behind : Nat → Int64) : Option (Int64) := (f_Union_behindAll_L5 zz_behind p1 (fun l5_5 l3_5 => some l3_5) fu (0 : Int32) (0 : Int64))
set_option maxRecDepth 100000 in
set_option maxHeartbeats 4000000 in
theorem c_Union_behindAll {l : Launch} {D : va_G} {cI cJ cC cZ cR : ClassId} (fu : Nat) (a_z a_zb a_zr a_zc a_zq a_ze a_za a_zd : Nat)   (zz_pieceCount : Int32) (zz_ruleCount : Int32) (zz_columnCount : Int32) (zz_behind : Nat → Int64) (p1 : Int64) (o_r : Int64) (h : f_Union_behindAll fu p1 zz_behind = some o_r) : GM l D (tysL cI cJ cC cZ cR) y_Union_behindAll b_Union_behindAll 6 (some (.long)) { frames := 0, cells := 0, slots := 0, locals := 0 } [.ref a_z, .long p1] (w_Union_behindAll (cI := cI) (cJ := cJ) (cC := cC) (cZ := cZ) (cR := cR) a_z a_zb a_zr a_zc a_zq a_ze a_za a_zd zz_pieceCount zz_ruleCount zz_columnCount zz_behind) (fun (o : Option Value) (w : va_W) => o = some (.long o_r) ∧ w = w_Union_behindAll (cI := cI) (cJ := cJ) (cC := cC) (cZ := cZ) (cR := cR) a_z a_zb a_zr a_zc a_zq a_ze a_za a_zd zz_pieceCount zz_ruleCount zz_columnCount zz_behind) := by
  refine GM.of (by decide) (Nat.le_of_ble_eq_true rfl) (lv := [(0, .ref a_z), (1, .long p1)]) rfl ?_
  intro X hX C
  subst hX
  refine k_lconst C d_Union_behindAll_0 (v := (0 : Int64)) (by decide) rfl ?_
  refine k_lstore_n (lv' := [(3, .long (0 : Int64)), (0, .ref a_z), (1, .long p1)]) C d_Union_behindAll_1 rfl (by decide) rfl rfl ?_
  refine k_iconst C d_Union_behindAll_2 (v := (0 : Int32)) (by decide) rfl ?_
  refine k_istore (lv' := [(5, .int (0 : Int32)), (3, .long (0 : Int64)), (0, .ref a_z), (1, .long p1)]) C d_Union_behindAll_3 (by decide) rfl rfl ?_
  have X5_0 : ∀ (l5_5 : Int32) (l3_5 : Int64), some l3_5 = some o_r → Wk X { frames := 0, cells := 0, slots := 0, locals := 0 } 6 D (va_A (w_Union_behindAll (cI := cI) (cJ := cJ) (cC := cC) (cZ := cZ) (cR := cR) a_z a_zb a_zr a_zc a_zq a_ze a_za a_zd zz_pieceCount zz_ruleCount zz_columnCount zz_behind) (xs X).heap.size) 0 0 (GE X D (w_Union_behindAll (cI := cI) (cJ := cJ) (cC := cC) (cZ := cZ) (cR := cR) a_z a_zb a_zr a_zc a_zq a_ze a_za a_zd zz_pieceCount zz_ruleCount zz_columnCount zz_behind) (fun (o : Option Value) (w : va_W) => o = some (.long o_r) ∧ w = w_Union_behindAll (cI := cI) (cJ := cJ) (cC := cC) (cZ := cZ) (cR := cR) a_z a_zb a_zr a_zc a_zq a_ze a_za a_zd zz_pieceCount zz_ruleCount zz_columnCount zz_behind) 0 0) (w_Union_behindAll (cI := cI) (cJ := cJ) (cC := cC) (cZ := cZ) (cR := cR) a_z a_zb a_zr a_zc a_zq a_ze a_za a_zd zz_pieceCount zz_ruleCount zz_columnCount zz_behind) [(5, .int l5_5), (3, .long l3_5), (0, .ref a_z), (1, .long p1)] [] 39 := by
    intro l5_5 l3_5 h
    refine k_lload_n C d_Union_behindAll_39 rfl 1 rfl rfl ?_
    exact k_lret C d_Union_behindAll_40 (tr1 h (fun t => (fun (o : Option Value) (w : va_W) => o = some (.long (t)) ∧ w = w_Union_behindAll (cI := cI) (cJ := cJ) (cC := cC) (cZ := cZ) (cR := cR) a_z a_zb a_zr a_zc a_zq a_ze a_za a_zd zz_pieceCount zz_ruleCount zz_columnCount zz_behind) (some (Value.long l3_5)) (w_Union_behindAll (cI := cI) (cJ := cJ) (cC := cC) (cZ := cZ) (cR := cR) a_z a_zb a_zr a_zc a_zq a_ze a_za a_zd zz_pieceCount zz_ruleCount zz_columnCount zz_behind)) ⟨rfl, rfl⟩)
  have L5 : ∀ (kk5_0 : Int32 → Int64 → Option (Int64)) (hX5_0 : ∀ (l5_5 : Int32) (l3_5 : Int64), kk5_0 l5_5 l3_5 = some o_r → Wk X { frames := 0, cells := 0, slots := 0, locals := 0 } 6 D (va_A (w_Union_behindAll (cI := cI) (cJ := cJ) (cC := cC) (cZ := cZ) (cR := cR) a_z a_zb a_zr a_zc a_zq a_ze a_za a_zd zz_pieceCount zz_ruleCount zz_columnCount zz_behind) (xs X).heap.size) 0 0 (GE X D (w_Union_behindAll (cI := cI) (cJ := cJ) (cC := cC) (cZ := cZ) (cR := cR) a_z a_zb a_zr a_zc a_zq a_ze a_za a_zd zz_pieceCount zz_ruleCount zz_columnCount zz_behind) (fun (o : Option Value) (w : va_W) => o = some (.long o_r) ∧ w = w_Union_behindAll (cI := cI) (cJ := cJ) (cC := cC) (cZ := cZ) (cR := cR) a_z a_zb a_zr a_zc a_zq a_ze a_za a_zd zz_pieceCount zz_ruleCount zz_columnCount zz_behind) 0 0) (w_Union_behindAll (cI := cI) (cJ := cJ) (cC := cC) (cZ := cZ) (cR := cR) a_z a_zb a_zr a_zc a_zq a_ze a_za a_zd zz_pieceCount zz_ruleCount zz_columnCount zz_behind) [(5, .int l5_5), (3, .long l3_5), (0, .ref a_z), (1, .long p1)] [] 39) (n_5 : Nat) (l5_5 : Int32) (l3_5 : Int64), f_Union_behindAll_L5 zz_behind p1 kk5_0 n_5 l5_5 l3_5 = some o_r → Wk X { frames := 0, cells := 0, slots := 0, locals := 0 } 6 D (va_A (w_Union_behindAll (cI := cI) (cJ := cJ) (cC := cC) (cZ := cZ) (cR := cR) a_z a_zb a_zr a_zc a_zq a_ze a_za a_zd zz_pieceCount zz_ruleCount zz_columnCount zz_behind) (xs X).heap.size) 0 0 (GE X D (w_Union_behindAll (cI := cI) (cJ := cJ) (cC := cC) (cZ := cZ) (cR := cR) a_z a_zb a_zr a_zc a_zq a_ze a_za a_zd zz_pieceCount zz_ruleCount zz_columnCount zz_behind) (fun (o : Option Value) (w : va_W) => o = some (.long o_r) ∧ w = w_Union_behindAll (cI := cI) (cJ := cJ) (cC := cC) (cZ := cZ) (cR := cR) a_z a_zb a_zr a_zc a_zq a_ze a_za a_zd zz_pieceCount zz_ruleCount zz_columnCount zz_behind) 0 0) (w_Union_behindAll (cI := cI) (cJ := cJ) (cC := cC) (cZ := cZ) (cR := cR) a_z a_zb a_zr a_zc a_zq a_ze a_za a_zd zz_pieceCount zz_ruleCount zz_columnCount zz_behind) [(5, .int l5_5), (3, .long l3_5), (0, .ref a_z), (1, .long p1)] [] 5 := by
    intro kk5_0 hX5_0 n_5
    induction n_5 with
    | zero =>
      intro l5_5 l3_5 h
      exact nS h
    | succ n_5 ih5 =>
      intro l5_5 l3_5 h
      replace h := (f_Union_behindAll_L5_s _ _ _ _ _ _).symm.trans h
      refine k_iload C d_Union_behindAll_5 0 rfl rfl ?_
      refine k_bipush C d_Union_behindAll_7 (v := (60 : Int32)) (by decide) rfl ?_
      refine k_icmp_gt (tgt := 39) C d_Union_behindAll_9 (by decide) rfl (fun c1 => ?_) (fun c1 => ?_)
      · replace h := gi_t h c1
        exact hX5_0 l5_5 l3_5 h
      · replace h := gi_f h c1
        refine k_lload_n C d_Union_behindAll_12 rfl 3 rfl rfl ?_
        refine k_iload C d_Union_behindAll_13 0 rfl rfl ?_
        refine k_lushr C d_Union_behindAll_15 rfl ?_
        refine k_lconst C d_Union_behindAll_16 (v := (1 : Int64)) (by decide) rfl ?_
        refine k_land C d_Union_behindAll_17 rfl ?_
        refine k_lconst C d_Union_behindAll_18 (v := (0 : Int64)) (by decide) rfl ?_
        refine k_lcmp C d_Union_behindAll_19 rfl ?_
        refine k_if_eq (tgt := 33) C d_Union_behindAll_20 (by decide) rfl (fun c2 => ?_) (fun c2 => ?_)
        · replace h := gi_t h c2
          refine k_iinc (lv' := [(5, .int (l5_5 + 1)), (3, .long l3_5), (0, .ref a_z), (1, .long p1)]) C d_Union_behindAll_33 0 rfl rfl (by decide) rfl rfl ?_
          refine k_goto (tgt := 5) C d_Union_behindAll_36 (by decide) ?_
          exact ih5 (l5_5 + 1) l3_5 h
        · replace h := gi_f h c2
          refine k_lload_n C d_Union_behindAll_23 rfl 1 rfl rfl ?_
          refine k_aload_n C d_Union_behindAll_24 rfl 2 rfl rfl ?_
          refine k_getf C d_Union_behindAll_25 hin_Union rfl 0 (by decide) mw104 0 rfl rfl rfl ?_
          refine k_iload C d_Union_behindAll_28 0 rfl rfl ?_
          have g3 := gd1 h
          replace h := gd2 h
          refine k_lald C d_Union_behindAll_30 1 1 rfl rfl (inB_in g3) rfl ?_
          refine k_lor C d_Union_behindAll_31 rfl ?_
          refine k_lstore_n (lv' := [(3, .long (l3_5 ||| (zz_behind l5_5.toNatClampNeg))), (5, .int l5_5), (0, .ref a_z), (1, .long p1)]) C d_Union_behindAll_32 rfl (by decide) rfl rfl ?_
          refine k_iinc (lv' := [(5, .int (l5_5 + 1)), (3, .long (l3_5 ||| (zz_behind l5_5.toNatClampNeg))), (0, .ref a_z), (1, .long p1)]) C d_Union_behindAll_33 1 rfl rfl (by decide) rfl rfl ?_
          refine k_goto (tgt := 5) C d_Union_behindAll_36 (by decide) ?_
          exact ih5 (l5_5 + 1) (l3_5 ||| (zz_behind l5_5.toNatClampNeg)) h
  exact L5 (fun l5_5 l3_5 => some l3_5) X5_0 fu (0 : Int32) (0 : Int64) h
theorem d_Union_readersOfColumn_0 : decode b_Union_readersOfColumn 0 = .ok (.iload_n 1, 1) := by decide +kernel
theorem d_Union_readersOfColumn_1 : decode b_Union_readersOfColumn 1 = .ok (.ifCond .lt 20, 3) := by decide +kernel
theorem d_Union_readersOfColumn_4 : decode b_Union_readersOfColumn 4 = .ok (.iload_n 1, 1) := by decide +kernel
theorem d_Union_readersOfColumn_5 : decode b_Union_readersOfColumn 5 = .ok (.aload_n 0, 1) := by decide +kernel
theorem d_Union_readersOfColumn_6 : decode b_Union_readersOfColumn 6 = .ok (.getfield 75, 3) := by decide +kernel
theorem d_Union_readersOfColumn_9 : decode b_Union_readersOfColumn 9 = .ok (.if_icmp .ge 12, 3) := by decide +kernel
theorem d_Union_readersOfColumn_12 : decode b_Union_readersOfColumn 12 = .ok (.aload_n 0, 1) := by decide +kernel
theorem d_Union_readersOfColumn_13 : decode b_Union_readersOfColumn 13 = .ok (.getfield 22, 3) := by decide +kernel
theorem d_Union_readersOfColumn_16 : decode b_Union_readersOfColumn 16 = .ok (.iload_n 1, 1) := by decide +kernel
theorem d_Union_readersOfColumn_17 : decode b_Union_readersOfColumn 17 = .ok (.laload, 1) := by decide +kernel
theorem d_Union_readersOfColumn_18 : decode b_Union_readersOfColumn 18 = .ok (.goto 4, 3) := by decide +kernel
theorem d_Union_readersOfColumn_21 : decode b_Union_readersOfColumn 21 = .ok (.lconst 0, 1) := by decide +kernel
theorem d_Union_readersOfColumn_22 : decode b_Union_readersOfColumn 22 = .ok (.lreturn, 1) := by decide +kernel
abbrev w_Union_readersOfColumn {cI cJ cC cZ cR : ClassId} (a_z a_zb a_zr a_zc a_zq a_ze a_za a_zd : Nat) (zz_pieceCount : Int32) (zz_ruleCount : Int32) (zz_columnCount : Int32) (zz_readersOfColumn : Nat → Int64) : va_W := [(a_z, .inr (4, [.ref a_zb, .ref a_zr, .ref a_zc, .ref a_zq, .ref a_ze, .ref a_za, .ref a_zd, .int zz_pieceCount, .int zz_ruleCount, .int zz_columnCount])), (a_zq, .inl (cJ, 95, .inr (.inl zz_readersOfColumn)))]
def f_Union_readersOfColumn (p1 : Int32) (zz_columnCount : Int32) (zz_readersOfColumn : Nat → Int64) : Option (Int64) := (if p1 < 0 then some (0 : Int64) else (if zz_columnCount ≤ p1 then some (0 : Int64) else (if inB p1 95 = true then some (zz_readersOfColumn p1.toNatClampNeg) else none)))
set_option maxRecDepth 100000 in
set_option maxHeartbeats 4000000 in
theorem c_Union_readersOfColumn {l : Launch} {D : va_G} {cI cJ cC cZ cR : ClassId} (fu : Nat) (a_z a_zb a_zr a_zc a_zq a_ze a_za a_zd : Nat)   (zz_pieceCount : Int32) (zz_ruleCount : Int32) (zz_columnCount : Int32) (zz_readersOfColumn : Nat → Int64) (p1 : Int32) (o_r : Int64) (h : f_Union_readersOfColumn p1 zz_columnCount zz_readersOfColumn = some o_r) : GM l D (tysL cI cJ cC cZ cR) y_Union_readersOfColumn b_Union_readersOfColumn 2 (some (.long)) { frames := 0, cells := 0, slots := 0, locals := 0 } [.ref a_z, .int p1] (w_Union_readersOfColumn (cI := cI) (cJ := cJ) (cC := cC) (cZ := cZ) (cR := cR) a_z a_zb a_zr a_zc a_zq a_ze a_za a_zd zz_pieceCount zz_ruleCount zz_columnCount zz_readersOfColumn) (fun (o : Option Value) (w : va_W) => o = some (.long o_r) ∧ w = w_Union_readersOfColumn (cI := cI) (cJ := cJ) (cC := cC) (cZ := cZ) (cR := cR) a_z a_zb a_zr a_zc a_zq a_ze a_za a_zd zz_pieceCount zz_ruleCount zz_columnCount zz_readersOfColumn) := by
  refine GM.of (by decide) (Nat.le_of_ble_eq_true rfl) (lv := [(0, .ref a_z), (1, .int p1)]) rfl ?_
  intro X hX C
  subst hX
  refine k_iload_n C d_Union_readersOfColumn_0 rfl 1 rfl rfl ?_
  refine k_if_lt (tgt := 21) C d_Union_readersOfColumn_1 (by decide) rfl (fun c1 => ?_) (fun c1 => ?_)
  · replace h := gi_t h c1
    refine k_lconst C d_Union_readersOfColumn_21 (v := (0 : Int64)) (by decide) rfl ?_
    exact k_lret C d_Union_readersOfColumn_22 (tr1 h (fun t => (fun (o : Option Value) (w : va_W) => o = some (.long (t)) ∧ w = w_Union_readersOfColumn (cI := cI) (cJ := cJ) (cC := cC) (cZ := cZ) (cR := cR) a_z a_zb a_zr a_zc a_zq a_ze a_za a_zd zz_pieceCount zz_ruleCount zz_columnCount zz_readersOfColumn) (some (Value.long (0 : Int64))) (w_Union_readersOfColumn (cI := cI) (cJ := cJ) (cC := cC) (cZ := cZ) (cR := cR) a_z a_zb a_zr a_zc a_zq a_ze a_za a_zd zz_pieceCount zz_ruleCount zz_columnCount zz_readersOfColumn)) ⟨rfl, rfl⟩)
  · replace h := gi_f h c1
    refine k_iload_n C d_Union_readersOfColumn_4 rfl 1 rfl rfl ?_
    refine k_aload_n C d_Union_readersOfColumn_5 rfl 0 rfl rfl ?_
    refine k_getf C d_Union_readersOfColumn_6 hin_Union rfl 9 (by decide) mw121 0 rfl rfl rfl ?_
    refine k_icmp_ge (tgt := 21) C d_Union_readersOfColumn_9 (by decide) rfl (fun c2 => ?_) (fun c2 => ?_)
    · replace h := gi_t h c2
      refine k_lconst C d_Union_readersOfColumn_21 (v := (0 : Int64)) (by decide) rfl ?_
      exact k_lret C d_Union_readersOfColumn_22 (tr1 h (fun t => (fun (o : Option Value) (w : va_W) => o = some (.long (t)) ∧ w = w_Union_readersOfColumn (cI := cI) (cJ := cJ) (cC := cC) (cZ := cZ) (cR := cR) a_z a_zb a_zr a_zc a_zq a_ze a_za a_zd zz_pieceCount zz_ruleCount zz_columnCount zz_readersOfColumn) (some (Value.long (0 : Int64))) (w_Union_readersOfColumn (cI := cI) (cJ := cJ) (cC := cC) (cZ := cZ) (cR := cR) a_z a_zb a_zr a_zc a_zq a_ze a_za a_zd zz_pieceCount zz_ruleCount zz_columnCount zz_readersOfColumn)) ⟨rfl, rfl⟩)
    · replace h := gi_f h c2
      refine k_aload_n C d_Union_readersOfColumn_12 rfl 0 rfl rfl ?_
      refine k_getf C d_Union_readersOfColumn_13 hin_Union rfl 3 (by decide) mw122 0 rfl rfl rfl ?_
      refine k_iload_n C d_Union_readersOfColumn_16 rfl 1 rfl rfl ?_
      have g3 := gd1 h
      replace h := gd2 h
      refine k_lald C d_Union_readersOfColumn_17 1 1 rfl rfl (inB_in g3) rfl ?_
      refine k_goto (tgt := 22) C d_Union_readersOfColumn_18 (by decide) ?_
      exact k_lret C d_Union_readersOfColumn_22 (tr1 h (fun t => (fun (o : Option Value) (w : va_W) => o = some (.long (t)) ∧ w = w_Union_readersOfColumn (cI := cI) (cJ := cJ) (cC := cC) (cZ := cZ) (cR := cR) a_z a_zb a_zr a_zc a_zq a_ze a_za a_zd zz_pieceCount zz_ruleCount zz_columnCount zz_readersOfColumn) (some (Value.long (zz_readersOfColumn p1.toNatClampNeg))) (w_Union_readersOfColumn (cI := cI) (cJ := cJ) (cC := cC) (cZ := cZ) (cR := cR) a_z a_zb a_zr a_zc a_zq a_ze a_za a_zd zz_pieceCount zz_ruleCount zz_columnCount zz_readersOfColumn)) ⟨rfl, rfl⟩)
theorem d_Union_permissionsOf_0 : decode b_Union_permissionsOf 0 = .ok (.iconst 0, 1) := by decide +kernel
theorem d_Union_permissionsOf_1 : decode b_Union_permissionsOf 1 = .ok (.istore_n 3, 1) := by decide +kernel
theorem d_Union_permissionsOf_2 : decode b_Union_permissionsOf 2 = .ok (.iconst 0, 1) := by decide +kernel
theorem d_Union_permissionsOf_3 : decode b_Union_permissionsOf 3 = .ok (.istore 4, 2) := by decide +kernel
theorem d_Union_permissionsOf_5 : decode b_Union_permissionsOf 5 = .ok (.iconst 0, 1) := by decide +kernel
theorem d_Union_permissionsOf_6 : decode b_Union_permissionsOf 6 = .ok (.istore 5, 2) := by decide +kernel
theorem d_Union_permissionsOf_8 : decode b_Union_permissionsOf 8 = .ok (.iload 5, 2) := by decide +kernel
theorem d_Union_permissionsOf_10 : decode b_Union_permissionsOf 10 = .ok (.aload_n 0, 1) := by decide +kernel
theorem d_Union_permissionsOf_11 : decode b_Union_permissionsOf 11 = .ok (.getfield 44, 3) := by decide +kernel
theorem d_Union_permissionsOf_14 : decode b_Union_permissionsOf 14 = .ok (.if_icmp .ge 45, 3) := by decide +kernel
theorem d_Union_permissionsOf_17 : decode b_Union_permissionsOf 17 = .ok (.lload_n 1, 1) := by decide +kernel
theorem d_Union_permissionsOf_18 : decode b_Union_permissionsOf 18 = .ok (.aload_n 0, 1) := by decide +kernel
theorem d_Union_permissionsOf_19 : decode b_Union_permissionsOf 19 = .ok (.getfield 25, 3) := by decide +kernel
theorem d_Union_permissionsOf_22 : decode b_Union_permissionsOf 22 = .ok (.iload 5, 2) := by decide +kernel
theorem d_Union_permissionsOf_24 : decode b_Union_permissionsOf 24 = .ok (.laload, 1) := by decide +kernel
theorem d_Union_permissionsOf_25 : decode b_Union_permissionsOf 25 = .ok (.land, 1) := by decide +kernel
theorem d_Union_permissionsOf_26 : decode b_Union_permissionsOf 26 = .ok (.lconst 0, 1) := by decide +kernel
theorem d_Union_permissionsOf_27 : decode b_Union_permissionsOf 27 = .ok (.lcmp, 1) := by decide +kernel
theorem d_Union_permissionsOf_28 : decode b_Union_permissionsOf 28 = .ok (.ifCond .eq 25, 3) := by decide +kernel
theorem d_Union_permissionsOf_31 : decode b_Union_permissionsOf 31 = .ok (.iload_n 3, 1) := by decide +kernel
theorem d_Union_permissionsOf_32 : decode b_Union_permissionsOf 32 = .ok (.aload_n 0, 1) := by decide +kernel
theorem d_Union_permissionsOf_33 : decode b_Union_permissionsOf 33 = .ok (.getfield 28, 3) := by decide +kernel
theorem d_Union_permissionsOf_36 : decode b_Union_permissionsOf 36 = .ok (.iload 5, 2) := by decide +kernel
theorem d_Union_permissionsOf_38 : decode b_Union_permissionsOf 38 = .ok (.iaload, 1) := by decide +kernel
theorem d_Union_permissionsOf_39 : decode b_Union_permissionsOf 39 = .ok (.ior, 1) := by decide +kernel
theorem d_Union_permissionsOf_40 : decode b_Union_permissionsOf 40 = .ok (.istore_n 3, 1) := by decide +kernel
theorem d_Union_permissionsOf_41 : decode b_Union_permissionsOf 41 = .ok (.iload 4, 2) := by decide +kernel
theorem d_Union_permissionsOf_43 : decode b_Union_permissionsOf 43 = .ok (.aload_n 0, 1) := by decide +kernel
theorem d_Union_permissionsOf_44 : decode b_Union_permissionsOf 44 = .ok (.getfield 31, 3) := by decide +kernel
theorem d_Union_permissionsOf_47 : decode b_Union_permissionsOf 47 = .ok (.iload 5, 2) := by decide +kernel
theorem d_Union_permissionsOf_49 : decode b_Union_permissionsOf 49 = .ok (.iaload, 1) := by decide +kernel
theorem d_Union_permissionsOf_50 : decode b_Union_permissionsOf 50 = .ok (.ior, 1) := by decide +kernel
theorem d_Union_permissionsOf_51 : decode b_Union_permissionsOf 51 = .ok (.istore 4, 2) := by decide +kernel
theorem d_Union_permissionsOf_53 : decode b_Union_permissionsOf 53 = .ok (.iinc 5 1, 3) := by decide +kernel
theorem d_Union_permissionsOf_56 : decode b_Union_permissionsOf 56 = .ok (.goto (-48), 3) := by decide +kernel
theorem d_Union_permissionsOf_59 : decode b_Union_permissionsOf 59 = .ok (.iload_n 3, 1) := by decide +kernel
theorem d_Union_permissionsOf_60 : decode b_Union_permissionsOf 60 = .ok (.iload 4, 2) := by decide +kernel
theorem d_Union_permissionsOf_62 : decode b_Union_permissionsOf 62 = .ok (.iconst (-1), 1) := by decide +kernel
theorem d_Union_permissionsOf_63 : decode b_Union_permissionsOf 63 = .ok (.ixor, 1) := by decide +kernel
theorem d_Union_permissionsOf_64 : decode b_Union_permissionsOf 64 = .ok (.iand, 1) := by decide +kernel
theorem d_Union_permissionsOf_65 : decode b_Union_permissionsOf 65 = .ok (.ireturn, 1) := by decide +kernel
abbrev w_Union_permissionsOf {cI cJ cC cZ cR : ClassId} (a_z a_zb a_zr a_zc a_zq a_ze a_za a_zd : Nat) (zz_pieceCount : Int32) (zz_ruleCount : Int32) (zz_columnCount : Int32) (zz_endsOf : Nat → Int64) (zz_allowedBy : Nat → Int32) (zz_deniedBy : Nat → Int32) : va_W := [(a_z, .inr (4, [.ref a_zb, .ref a_zr, .ref a_zc, .ref a_zq, .ref a_ze, .ref a_za, .ref a_zd, .int zz_pieceCount, .int zz_ruleCount, .int zz_columnCount])), (a_ze, .inl (cJ, 6, .inr (.inl zz_endsOf))), (a_za, .inl (cI, 6, .inl zz_allowedBy)), (a_zd, .inl (cI, 6, .inl zz_deniedBy))]
def f_Union_permissionsOf_L8 (zz_ruleCount : Int32) (zz_endsOf : Nat → Int64) (zz_allowedBy : Nat → Int32) (zz_deniedBy : Nat → Int32) (p1 : Int64) (kk8_0 : Int32 → Int32 → Int32 → Option (Int32)) : Nat → Int32 → Int32 → Int32 → Option (Int32)
  | 0, _, _, _ => none
  | n_8 + 1, l5_8, l4_8, l3_8 => (if zz_ruleCount ≤ l5_8 then (kk8_0 l5_8 l4_8 l3_8) else (if inB l5_8 6 = true then (if (lg_cmp (p1 &&& (zz_endsOf l5_8.toNatClampNeg)) (0 : Int64)) = 0 then (f_Union_permissionsOf_L8 zz_ruleCount zz_endsOf zz_allowedBy zz_deniedBy p1 kk8_0 n_8 (l5_8 + 1) l4_8 l3_8) else (if inB l5_8 6 = true then (if inB l5_8 6 = true then (f_Union_permissionsOf_L8 zz_ruleCount zz_endsOf zz_allowedBy zz_deniedBy p1 kk8_0 n_8 (l5_8 + 1) (l4_8 ||| (zz_deniedBy l5_8.toNatClampNeg)) (l3_8 ||| (zz_allowedBy l5_8.toNatClampNeg))) else none) else none)) else none))
theorem f_Union_permissionsOf_L8_s (zz_ruleCount : Int32) (zz_endsOf : Nat → Int64) (zz_allowedBy : Nat → Int32) (zz_deniedBy : Nat → Int32) (p1 : Int64) (kk8_0 : Int32 → Int32 → Int32 → Option (Int32)) (n_8 : Nat) (l5_8 : Int32) (l4_8 : Int32) (l3_8 : Int32) : f_Union_permissionsOf_L8 zz_ruleCount zz_endsOf zz_allowedBy zz_deniedBy p1 kk8_0 (n_8 + 1) l5_8 l4_8 l3_8 = (if zz_ruleCount ≤ l5_8 then (kk8_0 l5_8 l4_8 l3_8) else (if inB l5_8 6 = true then (if (lg_cmp (p1 &&& (zz_endsOf l5_8.toNatClampNeg)) (0 : Int64)) = 0 then (f_Union_permissionsOf_L8 zz_ruleCount zz_endsOf zz_allowedBy zz_deniedBy p1 kk8_0 n_8 (l5_8 + 1) l4_8 l3_8) else (if inB l5_8 6 = true then (if inB l5_8 6 = true then (f_Union_permissionsOf_L8 zz_ruleCount zz_endsOf zz_allowedBy zz_deniedBy p1 kk8_0 n_8 (l5_8 + 1) (l4_8 ||| (zz_deniedBy l5_8.toNatClampNeg)) (l3_8 ||| (zz_allowedBy l5_8.toNatClampNeg))) else none) else none)) else none)) := rfl
def f_Union_permissionsOf (fu : Nat) (p1 : Int64) (zz_ruleCount : Int32) (zz_endsOf : Nat → Int64) (zz_allowedBy : Nat → Int32) (zz_deniedBy : Nat → Int32) : Option (Int32) := (f_Union_permissionsOf_L8 zz_ruleCount zz_endsOf zz_allowedBy zz_deniedBy p1 (fun l5_8 l4_8 l3_8 => some (l3_8 &&& (l4_8 ^^^ (-1 : Int32)))) fu (0 : Int32) (0 : Int32) (0 : Int32))
set_option maxRecDepth 100000 in
set_option maxHeartbeats 4000000 in
theorem c_Union_permissionsOf {l : Launch} {D : va_G} {cI cJ cC cZ cR : ClassId} (fu : Nat) (a_z a_zb a_zr a_zc a_zq a_ze a_za a_zd : Nat)   (zz_pieceCount : Int32) (zz_ruleCount : Int32) (zz_columnCount : Int32) (zz_endsOf : Nat → Int64) (zz_allowedBy : Nat → Int32) (zz_deniedBy : Nat → Int32) (p1 : Int64) (o_r : Int32) (h : f_Union_permissionsOf fu p1 zz_ruleCount zz_endsOf zz_allowedBy zz_deniedBy = some o_r) : GM l D (tysL cI cJ cC cZ cR) y_Union_permissionsOf b_Union_permissionsOf 6 (some (.int)) { frames := 0, cells := 0, slots := 0, locals := 0 } [.ref a_z, .long p1] (w_Union_permissionsOf (cI := cI) (cJ := cJ) (cC := cC) (cZ := cZ) (cR := cR) a_z a_zb a_zr a_zc a_zq a_ze a_za a_zd zz_pieceCount zz_ruleCount zz_columnCount zz_endsOf zz_allowedBy zz_deniedBy) (fun (o : Option Value) (w : va_W) => o = some (.int o_r) ∧ w = w_Union_permissionsOf (cI := cI) (cJ := cJ) (cC := cC) (cZ := cZ) (cR := cR) a_z a_zb a_zr a_zc a_zq a_ze a_za a_zd zz_pieceCount zz_ruleCount zz_columnCount zz_endsOf zz_allowedBy zz_deniedBy) := by
  refine GM.of (by decide) (Nat.le_of_ble_eq_true rfl) (lv := [(0, .ref a_z), (1, .long p1)]) rfl ?_
  intro X hX C
  subst hX
  refine k_iconst C d_Union_permissionsOf_0 (v := (0 : Int32)) (by decide) rfl ?_
  refine k_istore_n (lv' := [(3, .int (0 : Int32)), (0, .ref a_z), (1, .long p1)]) C d_Union_permissionsOf_1 rfl (by decide) rfl rfl ?_
  refine k_iconst C d_Union_permissionsOf_2 (v := (0 : Int32)) (by decide) rfl ?_
  refine k_istore (lv' := [(4, .int (0 : Int32)), (3, .int (0 : Int32)), (0, .ref a_z), (1, .long p1)]) C d_Union_permissionsOf_3 (by decide) rfl rfl ?_
  refine k_iconst C d_Union_permissionsOf_5 (v := (0 : Int32)) (by decide) rfl ?_
  refine k_istore (lv' := [(5, .int (0 : Int32)), (4, .int (0 : Int32)), (3, .int (0 : Int32)), (0, .ref a_z), (1, .long p1)]) C d_Union_permissionsOf_6 (by decide) rfl rfl ?_
  have X8_0 : ∀ (l5_8 : Int32) (l4_8 : Int32) (l3_8 : Int32), some (l3_8 &&& (l4_8 ^^^ (-1 : Int32))) = some o_r → Wk X { frames := 0, cells := 0, slots := 0, locals := 0 } 6 D (va_A (w_Union_permissionsOf (cI := cI) (cJ := cJ) (cC := cC) (cZ := cZ) (cR := cR) a_z a_zb a_zr a_zc a_zq a_ze a_za a_zd zz_pieceCount zz_ruleCount zz_columnCount zz_endsOf zz_allowedBy zz_deniedBy) (xs X).heap.size) 0 0 (GE X D (w_Union_permissionsOf (cI := cI) (cJ := cJ) (cC := cC) (cZ := cZ) (cR := cR) a_z a_zb a_zr a_zc a_zq a_ze a_za a_zd zz_pieceCount zz_ruleCount zz_columnCount zz_endsOf zz_allowedBy zz_deniedBy) (fun (o : Option Value) (w : va_W) => o = some (.int o_r) ∧ w = w_Union_permissionsOf (cI := cI) (cJ := cJ) (cC := cC) (cZ := cZ) (cR := cR) a_z a_zb a_zr a_zc a_zq a_ze a_za a_zd zz_pieceCount zz_ruleCount zz_columnCount zz_endsOf zz_allowedBy zz_deniedBy) 0 0) (w_Union_permissionsOf (cI := cI) (cJ := cJ) (cC := cC) (cZ := cZ) (cR := cR) a_z a_zb a_zr a_zc a_zq a_ze a_za a_zd zz_pieceCount zz_ruleCount zz_columnCount zz_endsOf zz_allowedBy zz_deniedBy) [(5, .int l5_8), (4, .int l4_8), (3, .int l3_8), (0, .ref a_z), (1, .long p1)] [] 59 := by
    intro l5_8 l4_8 l3_8 h
    refine k_iload_n C d_Union_permissionsOf_59 rfl 2 rfl rfl ?_
    refine k_iload C d_Union_permissionsOf_60 1 rfl rfl ?_
    refine k_iconst C d_Union_permissionsOf_62 (v := (-1 : Int32)) (by decide) rfl ?_
    refine k_ixor C d_Union_permissionsOf_63 rfl ?_
    refine k_iand C d_Union_permissionsOf_64 rfl ?_
    exact k_iret C d_Union_permissionsOf_65 (tr1 h (fun t => (fun (o : Option Value) (w : va_W) => o = some (.int (t)) ∧ w = w_Union_permissionsOf (cI := cI) (cJ := cJ) (cC := cC) (cZ := cZ) (cR := cR) a_z a_zb a_zr a_zc a_zq a_ze a_za a_zd zz_pieceCount zz_ruleCount zz_columnCount zz_endsOf zz_allowedBy zz_deniedBy) (some (Value.int (l3_8 &&& (l4_8 ^^^ (-1 : Int32))))) (w_Union_permissionsOf (cI := cI) (cJ := cJ) (cC := cC) (cZ := cZ) (cR := cR) a_z a_zb a_zr a_zc a_zq a_ze a_za a_zd zz_pieceCount zz_ruleCount zz_columnCount zz_endsOf zz_allowedBy zz_deniedBy)) ⟨rfl, rfl⟩)
  have L8 : ∀ (kk8_0 : Int32 → Int32 → Int32 → Option (Int32)) (hX8_0 : ∀ (l5_8 : Int32) (l4_8 : Int32) (l3_8 : Int32), kk8_0 l5_8 l4_8 l3_8 = some o_r → Wk X { frames := 0, cells := 0, slots := 0, locals := 0 } 6 D (va_A (w_Union_permissionsOf (cI := cI) (cJ := cJ) (cC := cC) (cZ := cZ) (cR := cR) a_z a_zb a_zr a_zc a_zq a_ze a_za a_zd zz_pieceCount zz_ruleCount zz_columnCount zz_endsOf zz_allowedBy zz_deniedBy) (xs X).heap.size) 0 0 (GE X D (w_Union_permissionsOf (cI := cI) (cJ := cJ) (cC := cC) (cZ := cZ) (cR := cR) a_z a_zb a_zr a_zc a_zq a_ze a_za a_zd zz_pieceCount zz_ruleCount zz_columnCount zz_endsOf zz_allowedBy zz_deniedBy) (fun (o : Option Value) (w : va_W) => o = some (.int o_r) ∧ w = w_Union_permissionsOf (cI := cI) (cJ := cJ) (cC := cC) (cZ := cZ) (cR := cR) a_z a_zb a_zr a_zc a_zq a_ze a_za a_zd zz_pieceCount zz_ruleCount zz_columnCount zz_endsOf zz_allowedBy zz_deniedBy) 0 0) (w_Union_permissionsOf (cI := cI) (cJ := cJ) (cC := cC) (cZ := cZ) (cR := cR) a_z a_zb a_zr a_zc a_zq a_ze a_za a_zd zz_pieceCount zz_ruleCount zz_columnCount zz_endsOf zz_allowedBy zz_deniedBy) [(5, .int l5_8), (4, .int l4_8), (3, .int l3_8), (0, .ref a_z), (1, .long p1)] [] 59) (n_8 : Nat) (l5_8 : Int32) (l4_8 : Int32) (l3_8 : Int32), f_Union_permissionsOf_L8 zz_ruleCount zz_endsOf zz_allowedBy zz_deniedBy p1 kk8_0 n_8 l5_8 l4_8 l3_8 = some o_r → Wk X { frames := 0, cells := 0, slots := 0, locals := 0 } 6 D (va_A (w_Union_permissionsOf (cI := cI) (cJ := cJ) (cC := cC) (cZ := cZ) (cR := cR) a_z a_zb a_zr a_zc a_zq a_ze a_za a_zd zz_pieceCount zz_ruleCount zz_columnCount zz_endsOf zz_allowedBy zz_deniedBy) (xs X).heap.size) 0 0 (GE X D (w_Union_permissionsOf (cI := cI) (cJ := cJ) (cC := cC) (cZ := cZ) (cR := cR) a_z a_zb a_zr a_zc a_zq a_ze a_za a_zd zz_pieceCount zz_ruleCount zz_columnCount zz_endsOf zz_allowedBy zz_deniedBy) (fun (o : Option Value) (w : va_W) => o = some (.int o_r) ∧ w = w_Union_permissionsOf (cI := cI) (cJ := cJ) (cC := cC) (cZ := cZ) (cR := cR) a_z a_zb a_zr a_zc a_zq a_ze a_za a_zd zz_pieceCount zz_ruleCount zz_columnCount zz_endsOf zz_allowedBy zz_deniedBy) 0 0) (w_Union_permissionsOf (cI := cI) (cJ := cJ) (cC := cC) (cZ := cZ) (cR := cR) a_z a_zb a_zr a_zc a_zq a_ze a_za a_zd zz_pieceCount zz_ruleCount zz_columnCount zz_endsOf zz_allowedBy zz_deniedBy) [(5, .int l5_8), (4, .int l4_8), (3, .int l3_8), (0, .ref a_z), (1, .long p1)] [] 8 := by
    intro kk8_0 hX8_0 n_8
    induction n_8 with
    | zero =>
      intro l5_8 l4_8 l3_8 h
      exact nS h
    | succ n_8 ih8 =>
      intro l5_8 l4_8 l3_8 h
      replace h := (f_Union_permissionsOf_L8_s _ _ _ _ _ _ _ _ _ _).symm.trans h
      refine k_iload C d_Union_permissionsOf_8 0 rfl rfl ?_
      refine k_aload_n C d_Union_permissionsOf_10 rfl 3 rfl rfl ?_
      refine k_getf C d_Union_permissionsOf_11 hin_Union rfl 8 (by decide) mw107 0 rfl rfl rfl ?_
      refine k_icmp_ge (tgt := 59) C d_Union_permissionsOf_14 (by decide) rfl (fun c1 => ?_) (fun c1 => ?_)
      · replace h := gi_t h c1
        exact hX8_0 l5_8 l4_8 l3_8 h
      · replace h := gi_f h c1
        refine k_lload_n C d_Union_permissionsOf_17 rfl 4 rfl rfl ?_
        refine k_aload_n C d_Union_permissionsOf_18 rfl 3 rfl rfl ?_
        refine k_getf C d_Union_permissionsOf_19 hin_Union rfl 4 (by decide) mw113 0 rfl rfl rfl ?_
        refine k_iload C d_Union_permissionsOf_22 0 rfl rfl ?_
        have g2 := gd1 h
        replace h := gd2 h
        refine k_lald C d_Union_permissionsOf_24 1 1 rfl rfl (inB_in g2) rfl ?_
        refine k_land C d_Union_permissionsOf_25 rfl ?_
        refine k_lconst C d_Union_permissionsOf_26 (v := (0 : Int64)) (by decide) rfl ?_
        refine k_lcmp C d_Union_permissionsOf_27 rfl ?_
        refine k_if_eq (tgt := 53) C d_Union_permissionsOf_28 (by decide) rfl (fun c3 => ?_) (fun c3 => ?_)
        · replace h := gi_t h c3
          refine k_iinc (lv' := [(5, .int (l5_8 + 1)), (4, .int l4_8), (3, .int l3_8), (0, .ref a_z), (1, .long p1)]) C d_Union_permissionsOf_53 0 rfl rfl (by decide) rfl rfl ?_
          refine k_goto (tgt := 8) C d_Union_permissionsOf_56 (by decide) ?_
          exact ih8 (l5_8 + 1) l4_8 l3_8 h
        · replace h := gi_f h c3
          refine k_iload_n C d_Union_permissionsOf_31 rfl 2 rfl rfl ?_
          refine k_aload_n C d_Union_permissionsOf_32 rfl 3 rfl rfl ?_
          refine k_getf C d_Union_permissionsOf_33 hin_Union rfl 5 (by decide) mw115 0 rfl rfl rfl ?_
          refine k_iload C d_Union_permissionsOf_36 0 rfl rfl ?_
          have g4 := gd1 h
          replace h := gd2 h
          refine k_iald C d_Union_permissionsOf_38 2 0 rfl rfl (inB_in g4) rfl ?_
          refine k_ior C d_Union_permissionsOf_39 rfl ?_
          refine k_istore_n (lv' := [(3, .int (l3_8 ||| (zz_allowedBy l5_8.toNatClampNeg))), (5, .int l5_8), (4, .int l4_8), (0, .ref a_z), (1, .long p1)]) C d_Union_permissionsOf_40 rfl (by decide) rfl rfl ?_
          refine k_iload C d_Union_permissionsOf_41 2 rfl rfl ?_
          refine k_aload_n C d_Union_permissionsOf_43 rfl 3 rfl rfl ?_
          refine k_getf C d_Union_permissionsOf_44 hin_Union rfl 6 (by decide) mw117 0 rfl rfl rfl ?_
          refine k_iload C d_Union_permissionsOf_47 1 rfl rfl ?_
          have g5 := gd1 h
          replace h := gd2 h
          refine k_iald C d_Union_permissionsOf_49 3 0 rfl rfl (inB_in g5) rfl ?_
          refine k_ior C d_Union_permissionsOf_50 rfl ?_
          refine k_istore (lv' := [(4, .int (l4_8 ||| (zz_deniedBy l5_8.toNatClampNeg))), (3, .int (l3_8 ||| (zz_allowedBy l5_8.toNatClampNeg))), (5, .int l5_8), (0, .ref a_z), (1, .long p1)]) C d_Union_permissionsOf_51 (by decide) rfl rfl ?_
          refine k_iinc (lv' := [(5, .int (l5_8 + 1)), (4, .int (l4_8 ||| (zz_deniedBy l5_8.toNatClampNeg))), (3, .int (l3_8 ||| (zz_allowedBy l5_8.toNatClampNeg))), (0, .ref a_z), (1, .long p1)]) C d_Union_permissionsOf_53 2 rfl rfl (by decide) rfl rfl ?_
          refine k_goto (tgt := 8) C d_Union_permissionsOf_56 (by decide) ?_
          exact ih8 (l5_8 + 1) (l4_8 ||| (zz_deniedBy l5_8.toNatClampNeg)) (l3_8 ||| (zz_allowedBy l5_8.toNatClampNeg)) h
  exact L8 (fun l5_8 l4_8 l3_8 => some (l3_8 &&& (l4_8 ^^^ (-1 : Int32)))) X8_0 fu (0 : Int32) (0 : Int32) (0 : Int32) h
