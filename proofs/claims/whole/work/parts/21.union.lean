theorem d_Union_clear_0 : decode b_Union_clear 0 = .ok (.aload_n 0, 1) := by decide +kernel
theorem d_Union_clear_1 : decode b_Union_clear 1 = .ok (.getfield 9, 3) := by decide +kernel
theorem d_Union_clear_4 : decode b_Union_clear 4 = .ok (.lconst 0, 1) := by decide +kernel
theorem d_Union_clear_5 : decode b_Union_clear 5 = .ok (.invokestatic 34, 3) := by decide +kernel
theorem d_Union_clear_8 : decode b_Union_clear 8 = .ok (.aload_n 0, 1) := by decide +kernel
theorem d_Union_clear_9 : decode b_Union_clear 9 = .ok (.getfield 15, 3) := by decide +kernel
theorem d_Union_clear_12 : decode b_Union_clear 12 = .ok (.lconst 0, 1) := by decide +kernel
theorem d_Union_clear_13 : decode b_Union_clear 13 = .ok (.invokestatic 34, 3) := by decide +kernel
theorem d_Union_clear_16 : decode b_Union_clear 16 = .ok (.aload_n 0, 1) := by decide +kernel
theorem d_Union_clear_17 : decode b_Union_clear 17 = .ok (.iconst 0, 1) := by decide +kernel
theorem d_Union_clear_18 : decode b_Union_clear 18 = .ok (.putfield 40, 3) := by decide +kernel
theorem d_Union_clear_21 : decode b_Union_clear 21 = .ok (.aload_n 0, 1) := by decide +kernel
theorem d_Union_clear_22 : decode b_Union_clear 22 = .ok (.iconst 0, 1) := by decide +kernel
theorem d_Union_clear_23 : decode b_Union_clear 23 = .ok (.putfield 44, 3) := by decide +kernel
theorem d_Union_clear_26 : decode b_Union_clear 26 = .ok (.return_, 1) := by decide +kernel
abbrev w_Union_clear {cI cJ cC cZ cR : ClassId} (a_z a_zb a_zr a_zc a_zq a_ze a_za a_zd : Nat) (zz_pieceCount : Int32) (zz_ruleCount : Int32) (zz_columnCount : Int32) (zz_behind : Nat → Int64) (zz_readersOf : Nat → Int64) : va_W := [(a_z, .inr (4, [.ref a_zb, .ref a_zr, .ref a_zc, .ref a_zq, .ref a_ze, .ref a_za, .ref a_zd, .int zz_pieceCount, .int zz_ruleCount, .int zz_columnCount])), (a_zb, .inl (cJ, 61, .inr (.inl zz_behind))), (a_zr, .inl (cJ, 95, .inr (.inl zz_readersOf)))]
def f_Union_clear (fu : Nat) (zz_behind : Nat → Int64) (zz_readersOf : Nat → Int64) : Option (Int32 × Int32 × (Nat → Int64) × (Nat → Int64)) := (Option.bind (f_Arrays_fillJ fu 61 (0 : Int64) zz_behind) fun yv_fa_1 => (Option.bind (f_Arrays_fillJ fu 95 (0 : Int64) zz_readersOf) fun yv_fa_3 => some ((0 : Int32), (0 : Int32), yv_fa_1, yv_fa_3)))
set_option maxRecDepth 100000 in
set_option maxHeartbeats 4000000 in
theorem c_Union_clear {l : Launch} {D : va_G} {cI cJ cC cZ cR : ClassId} (fu : Nat) (a_z a_zb a_zr a_zc a_zq a_ze a_za a_zd : Nat)   (zz_pieceCount : Int32) (zz_ruleCount : Int32) (zz_columnCount : Int32) (zz_behind : Nat → Int64) (zz_readersOf : Nat → Int64)  (o_zz_pieceCount : Int32) (o_zz_ruleCount : Int32) (o_zz_behind : Nat → Int64) (o_zz_readersOf : Nat → Int64) (h : f_Union_clear fu zz_behind zz_readersOf = some (o_zz_pieceCount, o_zz_ruleCount, o_zz_behind, o_zz_readersOf)) : GM l D (tysL cI cJ cC cZ cR) y_Union_clear b_Union_clear 1 none { frames := 1, cells := 0, slots := 0, locals := 24 } [.ref a_z] (w_Union_clear (cI := cI) (cJ := cJ) (cC := cC) (cZ := cZ) (cR := cR) a_z a_zb a_zr a_zc a_zq a_ze a_za a_zd zz_pieceCount zz_ruleCount zz_columnCount zz_behind zz_readersOf) (fun (o : Option Value) (w : va_W) => o = none ∧ w = w_Union_clear (cI := cI) (cJ := cJ) (cC := cC) (cZ := cZ) (cR := cR) a_z a_zb a_zr a_zc a_zq a_ze a_za a_zd o_zz_pieceCount o_zz_ruleCount zz_columnCount o_zz_behind o_zz_readersOf) := by
  refine GM.of (by decide) (Nat.le_of_ble_eq_true rfl) (lv := [(0, .ref a_z)]) rfl ?_
  intro X hX C
  subst hX
  refine k_aload_n C d_Union_clear_0 rfl 0 rfl rfl ?_
  refine k_getf C d_Union_clear_1 hin_Union rfl 0 (by decide) mw104 0 rfl rfl rfl ?_
  refine k_lconst C d_Union_clear_4 (v := (0 : Int64)) (by decide) rfl ?_
  obtain ⟨yv_fa_1, hc2, h⟩ := bd h
  refine k_callSd (As := [.ref a_zb, .long (0 : Int64)]) (st := []) (st' := []) (wn := w_Union_clear (cI := cI) (cJ := cJ) (cC := cC) (cZ := cZ) (cR := cR) a_z a_zb a_zr a_zc a_zq a_ze a_za a_zd zz_pieceCount zz_ruleCount zz_columnCount yv_fa_1 zz_readersOf) C d_Union_clear_5 (c_Arrays_fillJ fu a_zb 61 zz_behind (0 : Int64) yv_fa_1 hc2) co_Arrays_fillJ cos_Arrays_fillJ mw108 (by decide) (by decide) (Nat.le_of_ble_eq_true rfl) rfl [1] [0, 2] [0, 2, 1] rfl (by decide +kernel) rfl (by decide +kernel) (by decide +kernel) rfl (by decide +kernel) rfl rfl ?_
  refine k_aload_n C d_Union_clear_8 rfl 0 rfl rfl ?_
  refine k_getf C d_Union_clear_9 hin_Union rfl 1 (by decide) mw105 0 rfl rfl rfl ?_
  refine k_lconst C d_Union_clear_12 (v := (0 : Int64)) (by decide) rfl ?_
  obtain ⟨yv_fa_3, hc4, h⟩ := bd h
  refine k_callSd (As := [.ref a_zr, .long (0 : Int64)]) (st := []) (st' := []) (wn := w_Union_clear (cI := cI) (cJ := cJ) (cC := cC) (cZ := cZ) (cR := cR) a_z a_zb a_zr a_zc a_zq a_ze a_za a_zd zz_pieceCount zz_ruleCount zz_columnCount yv_fa_1 yv_fa_3) C d_Union_clear_13 (c_Arrays_fillJ fu a_zr 95 zz_readersOf (0 : Int64) yv_fa_3 hc4) co_Arrays_fillJ cos_Arrays_fillJ mw108 (by decide) (by decide) (Nat.le_of_ble_eq_true rfl) rfl [2] [0, 1] [0, 1, 2] rfl (by decide +kernel) rfl (by decide +kernel) (by decide +kernel) rfl (by decide +kernel) rfl rfl ?_
  refine k_aload_n C d_Union_clear_16 rfl 0 rfl rfl ?_
  refine k_iconst C d_Union_clear_17 (v := (0 : Int32)) (by decide) rfl ?_
  refine k_putf (ws' := w_Union_clear (cI := cI) (cJ := cJ) (cC := cC) (cZ := cZ) (cR := cR) a_z a_zb a_zr a_zc a_zq a_ze a_za a_zd (0 : Int32) zz_ruleCount zz_columnCount yv_fa_1 yv_fa_3) C d_Union_clear_18 hin_Union hty_Union hnn_Union rfl 7 (by decide) mw106 rfl 0 rfl rfl rfl (Nat.le_of_ble_eq_true rfl) rfl rfl ?_
  refine k_aload_n C d_Union_clear_21 rfl 0 rfl rfl ?_
  refine k_iconst C d_Union_clear_22 (v := (0 : Int32)) (by decide) rfl ?_
  refine k_putf (ws' := w_Union_clear (cI := cI) (cJ := cJ) (cC := cC) (cZ := cZ) (cR := cR) a_z a_zb a_zr a_zc a_zq a_ze a_za a_zd (0 : Int32) (0 : Int32) zz_columnCount yv_fa_1 yv_fa_3) C d_Union_clear_23 hin_Union hty_Union hnn_Union rfl 8 (by decide) mw107 rfl 0 rfl rfl rfl (Nat.le_of_ble_eq_true rfl) rfl rfl ?_
  exact k_vret C d_Union_clear_26 (tr1 h (fun t => (fun (o : Option Value) (w : va_W) => o = none ∧ w = w_Union_clear (cI := cI) (cJ := cJ) (cC := cC) (cZ := cZ) (cR := cR) a_z a_zb a_zr a_zc a_zq a_ze a_za a_zd (t.1) (t.2.1) zz_columnCount (t.2.2.1) (t.2.2.2)) none (w_Union_clear (cI := cI) (cJ := cJ) (cC := cC) (cZ := cZ) (cR := cR) a_z a_zb a_zr a_zc a_zq a_ze a_za a_zd (0 : Int32) (0 : Int32) zz_columnCount yv_fa_1 yv_fa_3)) ⟨rfl, rfl⟩)
theorem d_Union_moved_0 : decode b_Union_moved 0 = .ok (.lload_n 1, 1) := by decide +kernel
theorem d_Union_moved_1 : decode b_Union_moved 1 = .ok (.lconst 1, 1) := by decide +kernel
theorem d_Union_moved_2 : decode b_Union_moved 2 = .ok (.land, 1) := by decide +kernel
theorem d_Union_moved_3 : decode b_Union_moved 3 = .ok (.lload_n 1, 1) := by decide +kernel
theorem d_Union_moved_4 : decode b_Union_moved 4 = .ok (.ldc2_w 73, 3) := by decide +kernel
theorem d_Union_moved_7 : decode b_Union_moved 7 = .ok (.land, 1) := by decide +kernel
theorem d_Union_moved_8 : decode b_Union_moved 8 = .ok (.aload_n 0, 1) := by decide +kernel
theorem d_Union_moved_9 : decode b_Union_moved 9 = .ok (.getfield 40, 3) := by decide +kernel
theorem d_Union_moved_12 : decode b_Union_moved 12 = .ok (.lshl, 1) := by decide +kernel
theorem d_Union_moved_13 : decode b_Union_moved 13 = .ok (.lor, 1) := by decide +kernel
theorem d_Union_moved_14 : decode b_Union_moved 14 = .ok (.lreturn, 1) := by decide +kernel
abbrev w_Union_moved {cI cJ cC cZ cR : ClassId} (a_z a_zb a_zr a_zc a_zq a_ze a_za a_zd : Nat) (zz_pieceCount : Int32) (zz_ruleCount : Int32) (zz_columnCount : Int32) : va_W := [(a_z, .inr (4, [.ref a_zb, .ref a_zr, .ref a_zc, .ref a_zq, .ref a_ze, .ref a_za, .ref a_zd, .int zz_pieceCount, .int zz_ruleCount, .int zz_columnCount]))]
def f_Union_moved (p1 : Int64) (zz_pieceCount : Int32) : Option (Int64) := some ((p1 &&& (1 : Int64)) ||| (jlshl (p1 &&& (-2 : Int64)) zz_pieceCount))
set_option maxRecDepth 100000 in
set_option maxHeartbeats 4000000 in
theorem c_Union_moved {l : Launch} {D : va_G} {cI cJ cC cZ cR : ClassId} (fu : Nat) (a_z a_zb a_zr a_zc a_zq a_ze a_za a_zd : Nat)   (zz_pieceCount : Int32) (zz_ruleCount : Int32) (zz_columnCount : Int32) (p1 : Int64) (o_r : Int64) (h : f_Union_moved p1 zz_pieceCount = some o_r) : GM l D (tysL cI cJ cC cZ cR) y_Union_moved b_Union_moved 3 (some (.long)) { frames := 0, cells := 0, slots := 0, locals := 0 } [.ref a_z, .long p1] (w_Union_moved (cI := cI) (cJ := cJ) (cC := cC) (cZ := cZ) (cR := cR) a_z a_zb a_zr a_zc a_zq a_ze a_za a_zd zz_pieceCount zz_ruleCount zz_columnCount) (fun (o : Option Value) (w : va_W) => o = some (.long o_r) ∧ w = w_Union_moved (cI := cI) (cJ := cJ) (cC := cC) (cZ := cZ) (cR := cR) a_z a_zb a_zr a_zc a_zq a_ze a_za a_zd zz_pieceCount zz_ruleCount zz_columnCount) := by
  refine GM.of (by decide) (Nat.le_of_ble_eq_true rfl) (lv := [(0, .ref a_z), (1, .long p1)]) rfl ?_
  intro X hX C
  subst hX
  refine k_lload_n C d_Union_moved_0 rfl 1 rfl rfl ?_
  refine k_lconst C d_Union_moved_1 (v := (1 : Int64)) (by decide) rfl ?_
  refine k_land C d_Union_moved_2 rfl ?_
  refine k_lload_n C d_Union_moved_3 rfl 1 rfl rfl ?_
  refine k_ldc2 C d_Union_moved_4 (v := (-2 : Int64)) mw109 rfl ?_
  refine k_land C d_Union_moved_7 rfl ?_
  refine k_aload_n C d_Union_moved_8 rfl 0 rfl rfl ?_
  refine k_getf C d_Union_moved_9 hin_Union rfl 7 (by decide) mw106 0 rfl rfl rfl ?_
  refine k_lshl C d_Union_moved_12 rfl ?_
  refine k_lor C d_Union_moved_13 rfl ?_
  exact k_lret C d_Union_moved_14 (tr1 h (fun t => (fun (o : Option Value) (w : va_W) => o = some (.long (t)) ∧ w = w_Union_moved (cI := cI) (cJ := cJ) (cC := cC) (cZ := cZ) (cR := cR) a_z a_zb a_zr a_zc a_zq a_ze a_za a_zd zz_pieceCount zz_ruleCount zz_columnCount) (some (Value.long ((p1 &&& (1 : Int64)) ||| (jlshl (p1 &&& (-2 : Int64)) zz_pieceCount)))) (w_Union_moved (cI := cI) (cJ := cJ) (cC := cC) (cZ := cZ) (cR := cR) a_z a_zb a_zr a_zc a_zq a_ze a_za a_zd zz_pieceCount zz_ruleCount zz_columnCount)) ⟨rfl, rfl⟩)
theorem d_Union_add_0 : decode b_Union_add 0 = .ok (.aload_n 1, 1) := by decide +kernel
theorem d_Union_add_1 : decode b_Union_add 1 = .ok (.ifnull 29, 3) := by decide +kernel
theorem d_Union_add_4 : decode b_Union_add 4 = .ok (.aload_n 0, 1) := by decide +kernel
theorem d_Union_add_5 : decode b_Union_add 5 = .ok (.getfield 44, 3) := by decide +kernel
theorem d_Union_add_8 : decode b_Union_add 8 = .ok (.bipush 6, 2) := by decide +kernel
theorem d_Union_add_10 : decode b_Union_add 10 = .ok (.if_icmp .ge 20, 3) := by decide +kernel
theorem d_Union_add_13 : decode b_Union_add 13 = .ok (.aload_n 0, 1) := by decide +kernel
theorem d_Union_add_14 : decode b_Union_add 14 = .ok (.getfield 40, 3) := by decide +kernel
theorem d_Union_add_17 : decode b_Union_add 17 = .ok (.aload_n 1, 1) := by decide +kernel
theorem d_Union_add_18 : decode b_Union_add 18 = .ok (.getfield 47, 3) := by decide +kernel
theorem d_Union_add_21 : decode b_Union_add 21 = .ok (.getfield 53, 3) := by decide +kernel
theorem d_Union_add_24 : decode b_Union_add 24 = .ok (.iadd, 1) := by decide +kernel
theorem d_Union_add_25 : decode b_Union_add 25 = .ok (.bipush 60, 2) := by decide +kernel
theorem d_Union_add_27 : decode b_Union_add 27 = .ok (.if_icmp .le 4, 3) := by decide +kernel
theorem d_Union_add_30 : decode b_Union_add 30 = .ok (.return_, 1) := by decide +kernel
theorem d_Union_add_31 : decode b_Union_add 31 = .ok (.aload_n 1, 1) := by decide +kernel
theorem d_Union_add_32 : decode b_Union_add 32 = .ok (.getfield 47, 3) := by decide +kernel
theorem d_Union_add_35 : decode b_Union_add 35 = .ok (.astore_n 2, 1) := by decide +kernel
theorem d_Union_add_36 : decode b_Union_add 36 = .ok (.aload_n 0, 1) := by decide +kernel
theorem d_Union_add_37 : decode b_Union_add 37 = .ok (.getfield 9, 3) := by decide +kernel
theorem d_Union_add_40 : decode b_Union_add 40 = .ok (.iconst 0, 1) := by decide +kernel
theorem d_Union_add_41 : decode b_Union_add 41 = .ok (.dup2, 1) := by decide +kernel
theorem d_Union_add_42 : decode b_Union_add 42 = .ok (.laload, 1) := by decide +kernel
theorem d_Union_add_43 : decode b_Union_add 43 = .ok (.aload_n 0, 1) := by decide +kernel
theorem d_Union_add_44 : decode b_Union_add 44 = .ok (.aload_n 2, 1) := by decide +kernel
theorem d_Union_add_45 : decode b_Union_add 45 = .ok (.getfield 56, 3) := by decide +kernel
theorem d_Union_add_48 : decode b_Union_add 48 = .ok (.iconst 0, 1) := by decide +kernel
theorem d_Union_add_49 : decode b_Union_add 49 = .ok (.laload, 1) := by decide +kernel
theorem d_Union_add_50 : decode b_Union_add 50 = .ok (.invokevirtual 57, 3) := by decide +kernel
theorem d_Union_add_53 : decode b_Union_add 53 = .ok (.lor, 1) := by decide +kernel
theorem d_Union_add_54 : decode b_Union_add 54 = .ok (.lastore, 1) := by decide +kernel
theorem d_Union_add_55 : decode b_Union_add 55 = .ok (.iconst 1, 1) := by decide +kernel
theorem d_Union_add_56 : decode b_Union_add 56 = .ok (.istore_n 3, 1) := by decide +kernel
theorem d_Union_add_57 : decode b_Union_add 57 = .ok (.iload_n 3, 1) := by decide +kernel
theorem d_Union_add_58 : decode b_Union_add 58 = .ok (.aload_n 2, 1) := by decide +kernel
theorem d_Union_add_59 : decode b_Union_add 59 = .ok (.getfield 53, 3) := by decide +kernel
theorem d_Union_add_62 : decode b_Union_add 62 = .ok (.if_icmp .gt 30, 3) := by decide +kernel
theorem d_Union_add_65 : decode b_Union_add 65 = .ok (.aload_n 0, 1) := by decide +kernel
theorem d_Union_add_66 : decode b_Union_add 66 = .ok (.getfield 9, 3) := by decide +kernel
theorem d_Union_add_69 : decode b_Union_add 69 = .ok (.aload_n 0, 1) := by decide +kernel
theorem d_Union_add_70 : decode b_Union_add 70 = .ok (.getfield 40, 3) := by decide +kernel
theorem d_Union_add_73 : decode b_Union_add 73 = .ok (.iload_n 3, 1) := by decide +kernel
theorem d_Union_add_74 : decode b_Union_add 74 = .ok (.iadd, 1) := by decide +kernel
theorem d_Union_add_75 : decode b_Union_add 75 = .ok (.aload_n 0, 1) := by decide +kernel
theorem d_Union_add_76 : decode b_Union_add 76 = .ok (.aload_n 2, 1) := by decide +kernel
theorem d_Union_add_77 : decode b_Union_add 77 = .ok (.getfield 56, 3) := by decide +kernel
theorem d_Union_add_80 : decode b_Union_add 80 = .ok (.iload_n 3, 1) := by decide +kernel
theorem d_Union_add_81 : decode b_Union_add 81 = .ok (.laload, 1) := by decide +kernel
theorem d_Union_add_82 : decode b_Union_add 82 = .ok (.invokevirtual 57, 3) := by decide +kernel
theorem d_Union_add_85 : decode b_Union_add 85 = .ok (.lastore, 1) := by decide +kernel
theorem d_Union_add_86 : decode b_Union_add 86 = .ok (.iinc 3 1, 3) := by decide +kernel
theorem d_Union_add_89 : decode b_Union_add 89 = .ok (.goto (-32), 3) := by decide +kernel
theorem d_Union_add_92 : decode b_Union_add 92 = .ok (.iconst 0, 1) := by decide +kernel
theorem d_Union_add_93 : decode b_Union_add 93 = .ok (.istore_n 3, 1) := by decide +kernel
theorem d_Union_add_94 : decode b_Union_add 94 = .ok (.iload_n 3, 1) := by decide +kernel
theorem d_Union_add_95 : decode b_Union_add 95 = .ok (.bipush 95, 2) := by decide +kernel
theorem d_Union_add_97 : decode b_Union_add 97 = .ok (.if_icmp .ge 28, 3) := by decide +kernel
theorem d_Union_add_100 : decode b_Union_add 100 = .ok (.aload_n 0, 1) := by decide +kernel
theorem d_Union_add_101 : decode b_Union_add 101 = .ok (.getfield 15, 3) := by decide +kernel
theorem d_Union_add_104 : decode b_Union_add 104 = .ok (.iload_n 3, 1) := by decide +kernel
theorem d_Union_add_105 : decode b_Union_add 105 = .ok (.dup2, 1) := by decide +kernel
theorem d_Union_add_106 : decode b_Union_add 106 = .ok (.laload, 1) := by decide +kernel
theorem d_Union_add_107 : decode b_Union_add 107 = .ok (.aload_n 0, 1) := by decide +kernel
theorem d_Union_add_108 : decode b_Union_add 108 = .ok (.aload_n 2, 1) := by decide +kernel
theorem d_Union_add_109 : decode b_Union_add 109 = .ok (.getfield 61, 3) := by decide +kernel
theorem d_Union_add_112 : decode b_Union_add 112 = .ok (.iload_n 3, 1) := by decide +kernel
theorem d_Union_add_113 : decode b_Union_add 113 = .ok (.laload, 1) := by decide +kernel
theorem d_Union_add_114 : decode b_Union_add 114 = .ok (.invokevirtual 57, 3) := by decide +kernel
theorem d_Union_add_117 : decode b_Union_add 117 = .ok (.lor, 1) := by decide +kernel
theorem d_Union_add_118 : decode b_Union_add 118 = .ok (.lastore, 1) := by decide +kernel
theorem d_Union_add_119 : decode b_Union_add 119 = .ok (.iinc 3 1, 3) := by decide +kernel
theorem d_Union_add_122 : decode b_Union_add 122 = .ok (.goto (-28), 3) := by decide +kernel
theorem d_Union_add_125 : decode b_Union_add 125 = .ok (.aload_n 0, 1) := by decide +kernel
theorem d_Union_add_126 : decode b_Union_add 126 = .ok (.getfield 25, 3) := by decide +kernel
theorem d_Union_add_129 : decode b_Union_add 129 = .ok (.aload_n 0, 1) := by decide +kernel
theorem d_Union_add_130 : decode b_Union_add 130 = .ok (.getfield 44, 3) := by decide +kernel
theorem d_Union_add_133 : decode b_Union_add 133 = .ok (.aload_n 0, 1) := by decide +kernel
theorem d_Union_add_134 : decode b_Union_add 134 = .ok (.aload_n 2, 1) := by decide +kernel
theorem d_Union_add_135 : decode b_Union_add 135 = .ok (.getfield 62, 3) := by decide +kernel
theorem d_Union_add_138 : decode b_Union_add 138 = .ok (.invokevirtual 57, 3) := by decide +kernel
theorem d_Union_add_141 : decode b_Union_add 141 = .ok (.lastore, 1) := by decide +kernel
theorem d_Union_add_142 : decode b_Union_add 142 = .ok (.aload_n 0, 1) := by decide +kernel
theorem d_Union_add_143 : decode b_Union_add 143 = .ok (.getfield 28, 3) := by decide +kernel
theorem d_Union_add_146 : decode b_Union_add 146 = .ok (.aload_n 0, 1) := by decide +kernel
theorem d_Union_add_147 : decode b_Union_add 147 = .ok (.getfield 44, 3) := by decide +kernel
theorem d_Union_add_150 : decode b_Union_add 150 = .ok (.aload_n 1, 1) := by decide +kernel
theorem d_Union_add_151 : decode b_Union_add 151 = .ok (.getfield 66, 3) := by decide +kernel
theorem d_Union_add_154 : decode b_Union_add 154 = .ok (.ifCond .eq 10, 3) := by decide +kernel
theorem d_Union_add_157 : decode b_Union_add 157 = .ok (.aload_n 1, 1) := by decide +kernel
theorem d_Union_add_158 : decode b_Union_add 158 = .ok (.getfield 70, 3) := by decide +kernel
theorem d_Union_add_161 : decode b_Union_add 161 = .ok (.goto 4, 3) := by decide +kernel
theorem d_Union_add_164 : decode b_Union_add 164 = .ok (.iconst 0, 1) := by decide +kernel
theorem d_Union_add_165 : decode b_Union_add 165 = .ok (.iastore, 1) := by decide +kernel
theorem d_Union_add_166 : decode b_Union_add 166 = .ok (.aload_n 0, 1) := by decide +kernel
theorem d_Union_add_167 : decode b_Union_add 167 = .ok (.getfield 31, 3) := by decide +kernel
theorem d_Union_add_170 : decode b_Union_add 170 = .ok (.aload_n 0, 1) := by decide +kernel
theorem d_Union_add_171 : decode b_Union_add 171 = .ok (.getfield 44, 3) := by decide +kernel
theorem d_Union_add_174 : decode b_Union_add 174 = .ok (.aload_n 1, 1) := by decide +kernel
theorem d_Union_add_175 : decode b_Union_add 175 = .ok (.getfield 66, 3) := by decide +kernel
theorem d_Union_add_178 : decode b_Union_add 178 = .ok (.ifCond .eq 7, 3) := by decide +kernel
theorem d_Union_add_181 : decode b_Union_add 181 = .ok (.iconst 0, 1) := by decide +kernel
theorem d_Union_add_182 : decode b_Union_add 182 = .ok (.goto 7, 3) := by decide +kernel
theorem d_Union_add_185 : decode b_Union_add 185 = .ok (.aload_n 1, 1) := by decide +kernel
theorem d_Union_add_186 : decode b_Union_add 186 = .ok (.getfield 70, 3) := by decide +kernel
theorem d_Union_add_189 : decode b_Union_add 189 = .ok (.iastore, 1) := by decide +kernel
theorem d_Union_add_190 : decode b_Union_add 190 = .ok (.aload_n 0, 1) := by decide +kernel
theorem d_Union_add_191 : decode b_Union_add 191 = .ok (.dup, 1) := by decide +kernel
theorem d_Union_add_192 : decode b_Union_add 192 = .ok (.getfield 44, 3) := by decide +kernel
theorem d_Union_add_195 : decode b_Union_add 195 = .ok (.iconst 1, 1) := by decide +kernel
theorem d_Union_add_196 : decode b_Union_add 196 = .ok (.iadd, 1) := by decide +kernel
theorem d_Union_add_197 : decode b_Union_add 197 = .ok (.putfield 44, 3) := by decide +kernel
theorem d_Union_add_200 : decode b_Union_add 200 = .ok (.aload_n 0, 1) := by decide +kernel
theorem d_Union_add_201 : decode b_Union_add 201 = .ok (.dup, 1) := by decide +kernel
theorem d_Union_add_202 : decode b_Union_add 202 = .ok (.getfield 40, 3) := by decide +kernel
theorem d_Union_add_205 : decode b_Union_add 205 = .ok (.aload_n 2, 1) := by decide +kernel
theorem d_Union_add_206 : decode b_Union_add 206 = .ok (.getfield 53, 3) := by decide +kernel
theorem d_Union_add_209 : decode b_Union_add 209 = .ok (.iadd, 1) := by decide +kernel
theorem d_Union_add_210 : decode b_Union_add 210 = .ok (.putfield 40, 3) := by decide +kernel
theorem d_Union_add_213 : decode b_Union_add 213 = .ok (.return_, 1) := by decide +kernel
abbrev w_Union_add {cI cJ cC cZ cR : ClassId} (a_z a_zb a_zr a_zc a_zq a_ze a_za a_zd a_u a_g a_gb a_gr a_ge a_go a_gc : Nat) (zz_pieceCount : Int32) (zz_ruleCount : Int32) (zz_columnCount : Int32) (zz_behind : Nat → Int64) (zz_readersOf : Nat → Int64) (zz_endsOf : Nat → Int64) (zz_allowedBy : Nat → Int32) (zz_deniedBy : Nat → Int32) (uu_allows : Int32) (uu_permissions : Int32) (gg_pieceCount : Int32) (gg_depth : Int32) (gg_ends : Int64) (gg_behind : Nat → Int64) (gg_readersOf : Nat → Int64) : va_W := [(a_z, .inr (4, [.ref a_zb, .ref a_zr, .ref a_zc, .ref a_zq, .ref a_ze, .ref a_za, .ref a_zd, .int zz_pieceCount, .int zz_ruleCount, .int zz_columnCount])), (a_zb, .inl (cJ, 61, .inr (.inl zz_behind))), (a_zr, .inl (cJ, 95, .inr (.inl zz_readersOf))), (a_ze, .inl (cJ, 6, .inr (.inl zz_endsOf))), (a_za, .inl (cI, 6, .inl zz_allowedBy)), (a_zd, .inl (cI, 6, .inl zz_deniedBy)), (a_u, .inr (3, [.ref a_g, .int uu_allows, .int uu_permissions])), (a_g, .inr (2, [.ref a_gb, .ref a_gr, .ref a_ge, .ref a_go, .ref a_gc, .int gg_pieceCount, .int gg_depth, .long gg_ends])), (a_gb, .inl (cJ, 41, .inr (.inl gg_behind))), (a_gr, .inl (cJ, 95, .inr (.inl gg_readersOf)))]
def f_Union_add_J189 (gg_pieceCount : Int32) (s1_j189 : Int32) (s2_j189 : Int32) (zz_pieceCount_j189 : Int32) (zz_ruleCount_j189 : Int32) (zz_behind_j189 : Nat → Int64) (zz_readersOf_j189 : Nat → Int64) (zz_endsOf_j189 : Nat → Int64) (zz_allowedBy_j189 : Nat → Int32) (zz_deniedBy_j189 : Nat → Int32) : Option (Int32 × Int32 × (Nat → Int64) × (Nat → Int64) × (Nat → Int64) × (Nat → Int32) × (Nat → Int32)) := (if inB s1_j189 6 = true then some ((zz_pieceCount_j189 + gg_pieceCount), (zz_ruleCount_j189 + (1 : Int32)), zz_behind_j189, zz_readersOf_j189, zz_endsOf_j189, zz_allowedBy_j189, (upd zz_deniedBy_j189 s1_j189.toNatClampNeg s2_j189)) else none)
def f_Union_add_J165 (uu_allows : Int32) (uu_permissions : Int32) (gg_pieceCount : Int32) (s1_j165 : Int32) (s2_j165 : Int32) (zz_pieceCount_j165 : Int32) (zz_ruleCount_j165 : Int32) (zz_behind_j165 : Nat → Int64) (zz_readersOf_j165 : Nat → Int64) (zz_endsOf_j165 : Nat → Int64) (zz_allowedBy_j165 : Nat → Int32) (zz_deniedBy_j165 : Nat → Int32) : Option (Int32 × Int32 × (Nat → Int64) × (Nat → Int64) × (Nat → Int64) × (Nat → Int32) × (Nat → Int32)) := (if inB s1_j165 6 = true then (if uu_allows = 0 then (f_Union_add_J189 gg_pieceCount zz_ruleCount_j165 uu_permissions zz_pieceCount_j165 zz_ruleCount_j165 zz_behind_j165 zz_readersOf_j165 zz_endsOf_j165 (upd zz_allowedBy_j165 s1_j165.toNatClampNeg s2_j165) zz_deniedBy_j165) else (f_Union_add_J189 gg_pieceCount zz_ruleCount_j165 (0 : Int32) zz_pieceCount_j165 zz_ruleCount_j165 zz_behind_j165 zz_readersOf_j165 zz_endsOf_j165 (upd zz_allowedBy_j165 s1_j165.toNatClampNeg s2_j165) zz_deniedBy_j165)) else none)
def f_Union_add_L94 (zz_pieceCount : Int32) (gg_readersOf : Nat → Int64) (kk94_0 : Int32 → (Nat → Int64) → Option (Int32 × Int32 × (Nat → Int64) × (Nat → Int64) × (Nat → Int64) × (Nat → Int32) × (Nat → Int32))) : Nat → Int32 → (Nat → Int64) → Option (Int32 × Int32 × (Nat → Int64) × (Nat → Int64) × (Nat → Int64) × (Nat → Int32) × (Nat → Int32))
  | 0, _, _ => none
  | n_94 + 1, l3_94, zz_readersOf_94 => (if (95 : Int32) ≤ l3_94 then (kk94_0 l3_94 zz_readersOf_94) else (if inB l3_94 95 = true then (if inB l3_94 95 = true then (Option.bind (f_Union_moved (gg_readersOf l3_94.toNatClampNeg) zz_pieceCount) fun r19 => (if inB l3_94 95 = true then (f_Union_add_L94 zz_pieceCount gg_readersOf kk94_0 n_94 (l3_94 + 1) (vp_updL zz_readersOf_94 l3_94.toNatClampNeg ((zz_readersOf_94 l3_94.toNatClampNeg) ||| r19))) else none)) else none) else none))
theorem f_Union_add_L94_s (zz_pieceCount : Int32) (gg_readersOf : Nat → Int64) (kk94_0 : Int32 → (Nat → Int64) → Option (Int32 × Int32 × (Nat → Int64) × (Nat → Int64) × (Nat → Int64) × (Nat → Int32) × (Nat → Int32))) (n_94 : Nat) (l3_94 : Int32) (zz_readersOf_94 : Nat → Int64) : f_Union_add_L94 zz_pieceCount gg_readersOf kk94_0 (n_94 + 1) l3_94 zz_readersOf_94 = (if (95 : Int32) ≤ l3_94 then (kk94_0 l3_94 zz_readersOf_94) else (if inB l3_94 95 = true then (if inB l3_94 95 = true then (Option.bind (f_Union_moved (gg_readersOf l3_94.toNatClampNeg) zz_pieceCount) fun r19 => (if inB l3_94 95 = true then (f_Union_add_L94 zz_pieceCount gg_readersOf kk94_0 n_94 (l3_94 + 1) (vp_updL zz_readersOf_94 l3_94.toNatClampNeg ((zz_readersOf_94 l3_94.toNatClampNeg) ||| r19))) else none)) else none) else none)) := rfl
def f_Union_add_L57 (zz_pieceCount : Int32) (gg_pieceCount : Int32) (gg_behind : Nat → Int64) (kk57_0 : Int32 → (Nat → Int64) → Option (Int32 × Int32 × (Nat → Int64) × (Nat → Int64) × (Nat → Int64) × (Nat → Int32) × (Nat → Int32))) : Nat → Int32 → (Nat → Int64) → Option (Int32 × Int32 × (Nat → Int64) × (Nat → Int64) × (Nat → Int64) × (Nat → Int32) × (Nat → Int32))
  | 0, _, _ => none
  | n_57 + 1, l3_57, zz_behind_57 => (if gg_pieceCount < l3_57 then (kk57_0 l3_57 zz_behind_57) else (if inB l3_57 41 = true then (Option.bind (f_Union_moved (gg_behind l3_57.toNatClampNeg) zz_pieceCount) fun r13 => (if inB (zz_pieceCount + l3_57) 61 = true then (f_Union_add_L57 zz_pieceCount gg_pieceCount gg_behind kk57_0 n_57 (l3_57 + 1) (vp_updL zz_behind_57 (zz_pieceCount + l3_57).toNatClampNeg r13)) else none)) else none))
theorem f_Union_add_L57_s (zz_pieceCount : Int32) (gg_pieceCount : Int32) (gg_behind : Nat → Int64) (kk57_0 : Int32 → (Nat → Int64) → Option (Int32 × Int32 × (Nat → Int64) × (Nat → Int64) × (Nat → Int64) × (Nat → Int32) × (Nat → Int32))) (n_57 : Nat) (l3_57 : Int32) (zz_behind_57 : Nat → Int64) : f_Union_add_L57 zz_pieceCount gg_pieceCount gg_behind kk57_0 (n_57 + 1) l3_57 zz_behind_57 = (if gg_pieceCount < l3_57 then (kk57_0 l3_57 zz_behind_57) else (if inB l3_57 41 = true then (Option.bind (f_Union_moved (gg_behind l3_57.toNatClampNeg) zz_pieceCount) fun r13 => (if inB (zz_pieceCount + l3_57) 61 = true then (f_Union_add_L57 zz_pieceCount gg_pieceCount gg_behind kk57_0 n_57 (l3_57 + 1) (vp_updL zz_behind_57 (zz_pieceCount + l3_57).toNatClampNeg r13)) else none)) else none)) := rfl
def f_Union_add (fu : Nat) (zz_pieceCount : Int32) (zz_ruleCount : Int32) (zz_behind : Nat → Int64) (zz_readersOf : Nat → Int64) (zz_endsOf : Nat → Int64) (zz_allowedBy : Nat → Int32) (zz_deniedBy : Nat → Int32) (uu_allows : Int32) (uu_permissions : Int32) (gg_pieceCount : Int32) (gg_ends : Int64) (gg_behind : Nat → Int64) (gg_readersOf : Nat → Int64) : Option (Int32 × Int32 × (Nat → Int64) × (Nat → Int64) × (Nat → Int64) × (Nat → Int32) × (Nat → Int32)) := (if (6 : Int32) ≤ zz_ruleCount then some (zz_pieceCount, zz_ruleCount, zz_behind, zz_readersOf, zz_endsOf, zz_allowedBy, zz_deniedBy) else (if (zz_pieceCount + gg_pieceCount) ≤ (60 : Int32) then (if inB (0 : Int32) 61 = true then (if inB (0 : Int32) 41 = true then (Option.bind (f_Union_moved (gg_behind (0 : Int32).toNatClampNeg) zz_pieceCount) fun r8 => (if inB (0 : Int32) 61 = true then (f_Union_add_L57 zz_pieceCount gg_pieceCount gg_behind (fun l3_57 zz_behind_57 => (f_Union_add_L94 zz_pieceCount gg_readersOf (fun l3_94 zz_readersOf_94 => (Option.bind (f_Union_moved gg_ends zz_pieceCount) fun r22 => (if inB zz_ruleCount 6 = true then (if uu_allows = 0 then (f_Union_add_J165 uu_allows uu_permissions gg_pieceCount zz_ruleCount (0 : Int32) zz_pieceCount zz_ruleCount zz_behind_57 zz_readersOf_94 (vp_updL zz_endsOf zz_ruleCount.toNatClampNeg r22) zz_allowedBy zz_deniedBy) else (f_Union_add_J165 uu_allows uu_permissions gg_pieceCount zz_ruleCount uu_permissions zz_pieceCount zz_ruleCount zz_behind_57 zz_readersOf_94 (vp_updL zz_endsOf zz_ruleCount.toNatClampNeg r22) zz_allowedBy zz_deniedBy)) else none))) fu (0 : Int32) zz_readersOf)) fu (1 : Int32) (vp_updL zz_behind (0 : Int32).toNatClampNeg ((zz_behind (0 : Int32).toNatClampNeg) ||| r8))) else none)) else none) else none) else some (zz_pieceCount, zz_ruleCount, zz_behind, zz_readersOf, zz_endsOf, zz_allowedBy, zz_deniedBy)))
set_option maxRecDepth 100000 in
set_option maxHeartbeats 4000000 in
theorem c_Union_add {l : Launch} {D : va_G} {cI cJ cC cZ cR : ClassId} (fu : Nat) (a_z a_zb a_zr a_zc a_zq a_ze a_za a_zd a_u a_g a_gb a_gr a_ge a_go a_gc : Nat)   (zz_pieceCount : Int32) (zz_ruleCount : Int32) (zz_columnCount : Int32) (zz_behind : Nat → Int64) (zz_readersOf : Nat → Int64) (zz_endsOf : Nat → Int64) (zz_allowedBy : Nat → Int32) (zz_deniedBy : Nat → Int32) (uu_allows : Int32) (uu_permissions : Int32) (gg_pieceCount : Int32) (gg_depth : Int32) (gg_ends : Int64) (gg_behind : Nat → Int64) (gg_readersOf : Nat → Int64)  (o_zz_pieceCount : Int32) (o_zz_ruleCount : Int32) (o_zz_behind : Nat → Int64) (o_zz_readersOf : Nat → Int64) (o_zz_endsOf : Nat → Int64) (o_zz_allowedBy : Nat → Int32) (o_zz_deniedBy : Nat → Int32) (h : f_Union_add fu zz_pieceCount zz_ruleCount zz_behind zz_readersOf zz_endsOf zz_allowedBy zz_deniedBy uu_allows uu_permissions gg_pieceCount gg_ends gg_behind gg_readersOf = some (o_zz_pieceCount, o_zz_ruleCount, o_zz_behind, o_zz_readersOf, o_zz_endsOf, o_zz_allowedBy, o_zz_deniedBy)) : GM l D (tysL cI cJ cC cZ cR) y_Union_add b_Union_add 4 none { frames := 1, cells := 0, slots := 0, locals := 22 } [.ref a_z, .ref a_u] (w_Union_add (cI := cI) (cJ := cJ) (cC := cC) (cZ := cZ) (cR := cR) a_z a_zb a_zr a_zc a_zq a_ze a_za a_zd a_u a_g a_gb a_gr a_ge a_go a_gc zz_pieceCount zz_ruleCount zz_columnCount zz_behind zz_readersOf zz_endsOf zz_allowedBy zz_deniedBy uu_allows uu_permissions gg_pieceCount gg_depth gg_ends gg_behind gg_readersOf) (fun (o : Option Value) (w : va_W) => o = none ∧ w = w_Union_add (cI := cI) (cJ := cJ) (cC := cC) (cZ := cZ) (cR := cR) a_z a_zb a_zr a_zc a_zq a_ze a_za a_zd a_u a_g a_gb a_gr a_ge a_go a_gc o_zz_pieceCount o_zz_ruleCount zz_columnCount o_zz_behind o_zz_readersOf o_zz_endsOf o_zz_allowedBy o_zz_deniedBy uu_allows uu_permissions gg_pieceCount gg_depth gg_ends gg_behind gg_readersOf) := by
  refine GM.of (by decide) (Nat.le_of_ble_eq_true rfl) (lv := [(0, .ref a_z), (1, .ref a_u)]) rfl ?_
  intro X hX C
  subst hX
  have J189 : ∀ (l3_j189 : Int32) (s1_j189 : Int32) (s2_j189 : Int32) (zz_pieceCount_j189 : Int32) (zz_ruleCount_j189 : Int32) (zz_behind_j189 : Nat → Int64) (zz_readersOf_j189 : Nat → Int64) (zz_endsOf_j189 : Nat → Int64) (zz_allowedBy_j189 : Nat → Int32) (zz_deniedBy_j189 : Nat → Int32), f_Union_add_J189 gg_pieceCount s1_j189 s2_j189 zz_pieceCount_j189 zz_ruleCount_j189 zz_behind_j189 zz_readersOf_j189 zz_endsOf_j189 zz_allowedBy_j189 zz_deniedBy_j189 = some (o_zz_pieceCount, o_zz_ruleCount, o_zz_behind, o_zz_readersOf, o_zz_endsOf, o_zz_allowedBy, o_zz_deniedBy) → Wk X { frames := 1, cells := 0, slots := 0, locals := 22 } 4 D (va_A (w_Union_add (cI := cI) (cJ := cJ) (cC := cC) (cZ := cZ) (cR := cR) a_z a_zb a_zr a_zc a_zq a_ze a_za a_zd a_u a_g a_gb a_gr a_ge a_go a_gc zz_pieceCount zz_ruleCount zz_columnCount zz_behind zz_readersOf zz_endsOf zz_allowedBy zz_deniedBy uu_allows uu_permissions gg_pieceCount gg_depth gg_ends gg_behind gg_readersOf) (xs X).heap.size) 0 0 (GE X D (w_Union_add (cI := cI) (cJ := cJ) (cC := cC) (cZ := cZ) (cR := cR) a_z a_zb a_zr a_zc a_zq a_ze a_za a_zd a_u a_g a_gb a_gr a_ge a_go a_gc zz_pieceCount zz_ruleCount zz_columnCount zz_behind zz_readersOf zz_endsOf zz_allowedBy zz_deniedBy uu_allows uu_permissions gg_pieceCount gg_depth gg_ends gg_behind gg_readersOf) (fun (o : Option Value) (w : va_W) => o = none ∧ w = w_Union_add (cI := cI) (cJ := cJ) (cC := cC) (cZ := cZ) (cR := cR) a_z a_zb a_zr a_zc a_zq a_ze a_za a_zd a_u a_g a_gb a_gr a_ge a_go a_gc o_zz_pieceCount o_zz_ruleCount zz_columnCount o_zz_behind o_zz_readersOf o_zz_endsOf o_zz_allowedBy o_zz_deniedBy uu_allows uu_permissions gg_pieceCount gg_depth gg_ends gg_behind gg_readersOf) 0 0) (w_Union_add (cI := cI) (cJ := cJ) (cC := cC) (cZ := cZ) (cR := cR) a_z a_zb a_zr a_zc a_zq a_ze a_za a_zd a_u a_g a_gb a_gr a_ge a_go a_gc zz_pieceCount_j189 zz_ruleCount_j189 zz_columnCount zz_behind_j189 zz_readersOf_j189 zz_endsOf_j189 zz_allowedBy_j189 zz_deniedBy_j189 uu_allows uu_permissions gg_pieceCount gg_depth gg_ends gg_behind gg_readersOf) [(3, .int l3_j189), (2, .ref a_g), (0, .ref a_z), (1, .ref a_u)] [.int s2_j189, .int s1_j189, .ref a_zd] 189 := by
    intro l3_j189 s1_j189 s2_j189 zz_pieceCount_j189 zz_ruleCount_j189 zz_behind_j189 zz_readersOf_j189 zz_endsOf_j189 zz_allowedBy_j189 zz_deniedBy_j189 h
    have g1 := gd1 h
    replace h := gd2 h
    refine k_iast (ws' := w_Union_add (cI := cI) (cJ := cJ) (cC := cC) (cZ := cZ) (cR := cR) a_z a_zb a_zr a_zc a_zq a_ze a_za a_zd a_u a_g a_gb a_gr a_ge a_go a_gc zz_pieceCount_j189 zz_ruleCount_j189 zz_columnCount zz_behind_j189 zz_readersOf_j189 zz_endsOf_j189 zz_allowedBy_j189 (upd zz_deniedBy_j189 s1_j189.toNatClampNeg s2_j189) uu_allows uu_permissions gg_pieceCount gg_depth gg_ends gg_behind gg_readersOf) C d_Union_add_189 5 0 rfl rfl (inB_in g1) rfl rfl ?_
    refine k_aload_n C d_Union_add_190 rfl 2 rfl rfl ?_
    refine k_dup C d_Union_add_191 rfl rfl ?_
    refine k_getf C d_Union_add_192 hin_Union rfl 8 (by decide) mw107 0 rfl rfl rfl ?_
    refine k_iconst C d_Union_add_195 (v := (1 : Int32)) (by decide) rfl ?_
    refine k_iadd C d_Union_add_196 rfl ?_
    refine k_putf (ws' := w_Union_add (cI := cI) (cJ := cJ) (cC := cC) (cZ := cZ) (cR := cR) a_z a_zb a_zr a_zc a_zq a_ze a_za a_zd a_u a_g a_gb a_gr a_ge a_go a_gc zz_pieceCount_j189 (zz_ruleCount_j189 + (1 : Int32)) zz_columnCount zz_behind_j189 zz_readersOf_j189 zz_endsOf_j189 zz_allowedBy_j189 (upd zz_deniedBy_j189 s1_j189.toNatClampNeg s2_j189) uu_allows uu_permissions gg_pieceCount gg_depth gg_ends gg_behind gg_readersOf) C d_Union_add_197 hin_Union hty_Union hnn_Union rfl 8 (by decide) mw107 rfl 0 rfl rfl rfl (Nat.le_of_ble_eq_true rfl) rfl rfl ?_
    refine k_aload_n C d_Union_add_200 rfl 2 rfl rfl ?_
    refine k_dup C d_Union_add_201 rfl rfl ?_
    refine k_getf C d_Union_add_202 hin_Union rfl 7 (by decide) mw106 0 rfl rfl rfl ?_
    refine k_aload_n C d_Union_add_205 rfl 1 rfl rfl ?_
    refine k_getN C d_Union_add_206 hin_Glob rfl 5 (by decide) mw111 7 rfl rfl rfl ?_
    refine k_iadd C d_Union_add_209 rfl ?_
    refine k_putf (ws' := w_Union_add (cI := cI) (cJ := cJ) (cC := cC) (cZ := cZ) (cR := cR) a_z a_zb a_zr a_zc a_zq a_ze a_za a_zd a_u a_g a_gb a_gr a_ge a_go a_gc (zz_pieceCount_j189 + gg_pieceCount) (zz_ruleCount_j189 + (1 : Int32)) zz_columnCount zz_behind_j189 zz_readersOf_j189 zz_endsOf_j189 zz_allowedBy_j189 (upd zz_deniedBy_j189 s1_j189.toNatClampNeg s2_j189) uu_allows uu_permissions gg_pieceCount gg_depth gg_ends gg_behind gg_readersOf) C d_Union_add_210 hin_Union hty_Union hnn_Union rfl 7 (by decide) mw106 rfl 0 rfl rfl rfl (Nat.le_of_ble_eq_true rfl) rfl rfl ?_
    exact k_vret C d_Union_add_213 (tr1 h (fun t => (fun (o : Option Value) (w : va_W) => o = none ∧ w = w_Union_add (cI := cI) (cJ := cJ) (cC := cC) (cZ := cZ) (cR := cR) a_z a_zb a_zr a_zc a_zq a_ze a_za a_zd a_u a_g a_gb a_gr a_ge a_go a_gc (t.1) (t.2.1) zz_columnCount (t.2.2.1) (t.2.2.2.1) (t.2.2.2.2.1) (t.2.2.2.2.2.1) (t.2.2.2.2.2.2) uu_allows uu_permissions gg_pieceCount gg_depth gg_ends gg_behind gg_readersOf) none (w_Union_add (cI := cI) (cJ := cJ) (cC := cC) (cZ := cZ) (cR := cR) a_z a_zb a_zr a_zc a_zq a_ze a_za a_zd a_u a_g a_gb a_gr a_ge a_go a_gc (zz_pieceCount_j189 + gg_pieceCount) (zz_ruleCount_j189 + (1 : Int32)) zz_columnCount zz_behind_j189 zz_readersOf_j189 zz_endsOf_j189 zz_allowedBy_j189 (upd zz_deniedBy_j189 s1_j189.toNatClampNeg s2_j189) uu_allows uu_permissions gg_pieceCount gg_depth gg_ends gg_behind gg_readersOf)) ⟨rfl, rfl⟩)
  have J165 : ∀ (l3_j165 : Int32) (s1_j165 : Int32) (s2_j165 : Int32) (zz_pieceCount_j165 : Int32) (zz_ruleCount_j165 : Int32) (zz_behind_j165 : Nat → Int64) (zz_readersOf_j165 : Nat → Int64) (zz_endsOf_j165 : Nat → Int64) (zz_allowedBy_j165 : Nat → Int32) (zz_deniedBy_j165 : Nat → Int32), f_Union_add_J165 uu_allows uu_permissions gg_pieceCount s1_j165 s2_j165 zz_pieceCount_j165 zz_ruleCount_j165 zz_behind_j165 zz_readersOf_j165 zz_endsOf_j165 zz_allowedBy_j165 zz_deniedBy_j165 = some (o_zz_pieceCount, o_zz_ruleCount, o_zz_behind, o_zz_readersOf, o_zz_endsOf, o_zz_allowedBy, o_zz_deniedBy) → Wk X { frames := 1, cells := 0, slots := 0, locals := 22 } 4 D (va_A (w_Union_add (cI := cI) (cJ := cJ) (cC := cC) (cZ := cZ) (cR := cR) a_z a_zb a_zr a_zc a_zq a_ze a_za a_zd a_u a_g a_gb a_gr a_ge a_go a_gc zz_pieceCount zz_ruleCount zz_columnCount zz_behind zz_readersOf zz_endsOf zz_allowedBy zz_deniedBy uu_allows uu_permissions gg_pieceCount gg_depth gg_ends gg_behind gg_readersOf) (xs X).heap.size) 0 0 (GE X D (w_Union_add (cI := cI) (cJ := cJ) (cC := cC) (cZ := cZ) (cR := cR) a_z a_zb a_zr a_zc a_zq a_ze a_za a_zd a_u a_g a_gb a_gr a_ge a_go a_gc zz_pieceCount zz_ruleCount zz_columnCount zz_behind zz_readersOf zz_endsOf zz_allowedBy zz_deniedBy uu_allows uu_permissions gg_pieceCount gg_depth gg_ends gg_behind gg_readersOf) (fun (o : Option Value) (w : va_W) => o = none ∧ w = w_Union_add (cI := cI) (cJ := cJ) (cC := cC) (cZ := cZ) (cR := cR) a_z a_zb a_zr a_zc a_zq a_ze a_za a_zd a_u a_g a_gb a_gr a_ge a_go a_gc o_zz_pieceCount o_zz_ruleCount zz_columnCount o_zz_behind o_zz_readersOf o_zz_endsOf o_zz_allowedBy o_zz_deniedBy uu_allows uu_permissions gg_pieceCount gg_depth gg_ends gg_behind gg_readersOf) 0 0) (w_Union_add (cI := cI) (cJ := cJ) (cC := cC) (cZ := cZ) (cR := cR) a_z a_zb a_zr a_zc a_zq a_ze a_za a_zd a_u a_g a_gb a_gr a_ge a_go a_gc zz_pieceCount_j165 zz_ruleCount_j165 zz_columnCount zz_behind_j165 zz_readersOf_j165 zz_endsOf_j165 zz_allowedBy_j165 zz_deniedBy_j165 uu_allows uu_permissions gg_pieceCount gg_depth gg_ends gg_behind gg_readersOf) [(3, .int l3_j165), (2, .ref a_g), (0, .ref a_z), (1, .ref a_u)] [.int s2_j165, .int s1_j165, .ref a_za] 165 := by
    intro l3_j165 s1_j165 s2_j165 zz_pieceCount_j165 zz_ruleCount_j165 zz_behind_j165 zz_readersOf_j165 zz_endsOf_j165 zz_allowedBy_j165 zz_deniedBy_j165 h
    have g2 := gd1 h
    replace h := gd2 h
    refine k_iast (ws' := w_Union_add (cI := cI) (cJ := cJ) (cC := cC) (cZ := cZ) (cR := cR) a_z a_zb a_zr a_zc a_zq a_ze a_za a_zd a_u a_g a_gb a_gr a_ge a_go a_gc zz_pieceCount_j165 zz_ruleCount_j165 zz_columnCount zz_behind_j165 zz_readersOf_j165 zz_endsOf_j165 (upd zz_allowedBy_j165 s1_j165.toNatClampNeg s2_j165) zz_deniedBy_j165 uu_allows uu_permissions gg_pieceCount gg_depth gg_ends gg_behind gg_readersOf) C d_Union_add_165 4 0 rfl rfl (inB_in g2) rfl rfl ?_
    refine k_aload_n C d_Union_add_166 rfl 2 rfl rfl ?_
    refine k_getf C d_Union_add_167 hin_Union rfl 6 (by decide) mw117 0 rfl rfl rfl ?_
    refine k_aload_n C d_Union_add_170 rfl 2 rfl rfl ?_
    refine k_getf C d_Union_add_171 hin_Union rfl 8 (by decide) mw107 0 rfl rfl rfl ?_
    refine k_aload_n C d_Union_add_174 rfl 3 rfl rfl ?_
    refine k_getN C d_Union_add_175 hin_Rule rfl 1 (by decide) mw116 6 rfl rfl rfl ?_
    refine k_if_eq (tgt := 185) C d_Union_add_178 (by decide) rfl (fun c3 => ?_) (fun c3 => ?_)
    · replace h := gi_t h c3
      refine k_aload_n C d_Union_add_185 rfl 3 rfl rfl ?_
      refine k_getN C d_Union_add_186 hin_Rule rfl 2 (by decide) mw118 6 rfl rfl rfl ?_
      exact J189 l3_j165 zz_ruleCount_j165 uu_permissions zz_pieceCount_j165 zz_ruleCount_j165 zz_behind_j165 zz_readersOf_j165 zz_endsOf_j165 (upd zz_allowedBy_j165 s1_j165.toNatClampNeg s2_j165) zz_deniedBy_j165 h
    · replace h := gi_f h c3
      refine k_iconst C d_Union_add_181 (v := (0 : Int32)) (by decide) rfl ?_
      refine k_goto (tgt := 189) C d_Union_add_182 (by decide) ?_
      exact J189 l3_j165 zz_ruleCount_j165 (0 : Int32) zz_pieceCount_j165 zz_ruleCount_j165 zz_behind_j165 zz_readersOf_j165 zz_endsOf_j165 (upd zz_allowedBy_j165 s1_j165.toNatClampNeg s2_j165) zz_deniedBy_j165 h
  refine k_aload_n C d_Union_add_0 rfl 1 rfl rfl ?_
  refine k_ifnull C d_Union_add_1 rfl ?_
  refine k_aload_n C d_Union_add_4 rfl 0 rfl rfl ?_
  refine k_getf C d_Union_add_5 hin_Union rfl 8 (by decide) mw107 0 rfl rfl rfl ?_
  refine k_bipush C d_Union_add_8 (v := (6 : Int32)) (by decide) rfl ?_
  refine k_icmp_ge (tgt := 30) C d_Union_add_10 (by decide) rfl (fun c4 => ?_) (fun c4 => ?_)
  · replace h := gi_t h c4
    exact k_vret C d_Union_add_30 (tr1 h (fun t => (fun (o : Option Value) (w : va_W) => o = none ∧ w = w_Union_add (cI := cI) (cJ := cJ) (cC := cC) (cZ := cZ) (cR := cR) a_z a_zb a_zr a_zc a_zq a_ze a_za a_zd a_u a_g a_gb a_gr a_ge a_go a_gc (t.1) (t.2.1) zz_columnCount (t.2.2.1) (t.2.2.2.1) (t.2.2.2.2.1) (t.2.2.2.2.2.1) (t.2.2.2.2.2.2) uu_allows uu_permissions gg_pieceCount gg_depth gg_ends gg_behind gg_readersOf) none (w_Union_add (cI := cI) (cJ := cJ) (cC := cC) (cZ := cZ) (cR := cR) a_z a_zb a_zr a_zc a_zq a_ze a_za a_zd a_u a_g a_gb a_gr a_ge a_go a_gc zz_pieceCount zz_ruleCount zz_columnCount zz_behind zz_readersOf zz_endsOf zz_allowedBy zz_deniedBy uu_allows uu_permissions gg_pieceCount gg_depth gg_ends gg_behind gg_readersOf)) ⟨rfl, rfl⟩)
  · replace h := gi_f h c4
    refine k_aload_n C d_Union_add_13 rfl 0 rfl rfl ?_
    refine k_getf C d_Union_add_14 hin_Union rfl 7 (by decide) mw106 0 rfl rfl rfl ?_
    refine k_aload_n C d_Union_add_17 rfl 1 rfl rfl ?_
    refine k_getN C d_Union_add_18 hin_Rule rfl 0 (by decide) mw110 6 rfl rfl rfl ?_
    refine k_getN C d_Union_add_21 hin_Glob rfl 5 (by decide) mw111 7 rfl rfl rfl ?_
    refine k_iadd C d_Union_add_24 rfl ?_
    refine k_bipush C d_Union_add_25 (v := (60 : Int32)) (by decide) rfl ?_
    refine k_icmp_le (tgt := 31) C d_Union_add_27 (by decide) rfl (fun c5 => ?_) (fun c5 => ?_)
    · replace h := gi_t h c5
      refine k_aload_n C d_Union_add_31 rfl 1 rfl rfl ?_
      refine k_getN C d_Union_add_32 hin_Rule rfl 0 (by decide) mw110 6 rfl rfl rfl ?_
      refine k_astore_n (lv' := [(2, .ref a_g), (0, .ref a_z), (1, .ref a_u)]) C d_Union_add_35 rfl (by decide) rfl rfl ?_
      refine k_aload_n C d_Union_add_36 rfl 1 rfl rfl ?_
      refine k_getf C d_Union_add_37 hin_Union rfl 0 (by decide) mw104 0 rfl rfl rfl ?_
      refine k_iconst C d_Union_add_40 (v := (0 : Int32)) (by decide) rfl ?_
      refine k_dup2_11 C d_Union_add_41 rfl rfl rfl ?_
      have g6 := gd1 h
      replace h := gd2 h
      refine k_lald C d_Union_add_42 1 1 rfl rfl (inB_in g6) rfl ?_
      refine k_aload_n C d_Union_add_43 rfl 1 rfl rfl ?_
      refine k_aload_n C d_Union_add_44 rfl 0 rfl rfl ?_
      refine k_getN C d_Union_add_45 hin_Glob rfl 0 (by decide) mw112 7 rfl rfl rfl ?_
      refine k_iconst C d_Union_add_48 (v := (0 : Int32)) (by decide) rfl ?_
      have g7 := gd1 h
      replace h := gd2 h
      refine k_lald C d_Union_add_49 8 1 rfl rfl (inB_in g7) rfl ?_
      obtain ⟨r8, hc9, h⟩ := bd h
      refine k_callVd (As := [.long (gg_behind (0 : Int32).toNatClampNeg)]) (st := [.long (zz_behind (0 : Int32).toNatClampNeg), .int (0 : Int32), .ref a_zb]) (st' := [.long r8, .long (zz_behind (0 : Int32).toNatClampNeg), .int (0 : Int32), .ref a_zb]) (wn := w_Union_add (cI := cI) (cJ := cJ) (cC := cC) (cZ := cZ) (cR := cR) a_z a_zb a_zr a_zc a_zq a_ze a_za a_zd a_u a_g a_gb a_gr a_ge a_go a_gc zz_pieceCount zz_ruleCount zz_columnCount zz_behind zz_readersOf zz_endsOf zz_allowedBy zz_deniedBy uu_allows uu_permissions gg_pieceCount gg_depth gg_ends gg_behind gg_readersOf) C d_Union_add_50 (c_Union_moved fu a_z a_zb a_zr a_zc a_zq a_ze a_za a_zd zz_pieceCount zz_ruleCount zz_columnCount (gg_behind (0 : Int32).toNatClampNeg) r8 hc9) co_Union_moved cov_Union_moved mw120 0 rfl rfl (by decide) (by decide) (Nat.le_of_ble_eq_true rfl) rfl [0] [1, 2, 3, 4, 5, 6, 7, 8, 9] [9, 0, 1, 2, 3, 4, 5, 6, 7, 8] rfl (by decide +kernel) rfl (by decide +kernel) (by decide +kernel) rfl (by decide +kernel) rfl rfl ?_
      refine k_lor C d_Union_add_53 rfl ?_
      have g10 := gd1 h
      replace h := gd2 h
      refine k_last (ws' := w_Union_add (cI := cI) (cJ := cJ) (cC := cC) (cZ := cZ) (cR := cR) a_z a_zb a_zr a_zc a_zq a_ze a_za a_zd a_u a_g a_gb a_gr a_ge a_go a_gc zz_pieceCount zz_ruleCount zz_columnCount (vp_updL zz_behind (0 : Int32).toNatClampNeg ((zz_behind (0 : Int32).toNatClampNeg) ||| r8)) zz_readersOf zz_endsOf zz_allowedBy zz_deniedBy uu_allows uu_permissions gg_pieceCount gg_depth gg_ends gg_behind gg_readersOf) C d_Union_add_54 1 1 rfl rfl (inB_in g10) rfl rfl ?_
      refine k_iconst C d_Union_add_55 (v := (1 : Int32)) (by decide) rfl ?_
      refine k_istore_n (lv' := [(3, .int (1 : Int32)), (2, .ref a_g), (0, .ref a_z), (1, .ref a_u)]) C d_Union_add_56 rfl (by decide) rfl rfl ?_
      have X57_0 : ∀ (l3_57 : Int32) (zz_behind_57 : Nat → Int64), (f_Union_add_L94 zz_pieceCount gg_readersOf (fun l3_94 zz_readersOf_94 => (Option.bind (f_Union_moved gg_ends zz_pieceCount) fun r22 => (if inB zz_ruleCount 6 = true then (if uu_allows = 0 then (f_Union_add_J165 uu_allows uu_permissions gg_pieceCount zz_ruleCount (0 : Int32) zz_pieceCount zz_ruleCount zz_behind_57 zz_readersOf_94 (vp_updL zz_endsOf zz_ruleCount.toNatClampNeg r22) zz_allowedBy zz_deniedBy) else (f_Union_add_J165 uu_allows uu_permissions gg_pieceCount zz_ruleCount uu_permissions zz_pieceCount zz_ruleCount zz_behind_57 zz_readersOf_94 (vp_updL zz_endsOf zz_ruleCount.toNatClampNeg r22) zz_allowedBy zz_deniedBy)) else none))) fu (0 : Int32) zz_readersOf) = some (o_zz_pieceCount, o_zz_ruleCount, o_zz_behind, o_zz_readersOf, o_zz_endsOf, o_zz_allowedBy, o_zz_deniedBy) → Wk X { frames := 1, cells := 0, slots := 0, locals := 22 } 4 D (va_A (w_Union_add (cI := cI) (cJ := cJ) (cC := cC) (cZ := cZ) (cR := cR) a_z a_zb a_zr a_zc a_zq a_ze a_za a_zd a_u a_g a_gb a_gr a_ge a_go a_gc zz_pieceCount zz_ruleCount zz_columnCount zz_behind zz_readersOf zz_endsOf zz_allowedBy zz_deniedBy uu_allows uu_permissions gg_pieceCount gg_depth gg_ends gg_behind gg_readersOf) (xs X).heap.size) 0 0 (GE X D (w_Union_add (cI := cI) (cJ := cJ) (cC := cC) (cZ := cZ) (cR := cR) a_z a_zb a_zr a_zc a_zq a_ze a_za a_zd a_u a_g a_gb a_gr a_ge a_go a_gc zz_pieceCount zz_ruleCount zz_columnCount zz_behind zz_readersOf zz_endsOf zz_allowedBy zz_deniedBy uu_allows uu_permissions gg_pieceCount gg_depth gg_ends gg_behind gg_readersOf) (fun (o : Option Value) (w : va_W) => o = none ∧ w = w_Union_add (cI := cI) (cJ := cJ) (cC := cC) (cZ := cZ) (cR := cR) a_z a_zb a_zr a_zc a_zq a_ze a_za a_zd a_u a_g a_gb a_gr a_ge a_go a_gc o_zz_pieceCount o_zz_ruleCount zz_columnCount o_zz_behind o_zz_readersOf o_zz_endsOf o_zz_allowedBy o_zz_deniedBy uu_allows uu_permissions gg_pieceCount gg_depth gg_ends gg_behind gg_readersOf) 0 0) (w_Union_add (cI := cI) (cJ := cJ) (cC := cC) (cZ := cZ) (cR := cR) a_z a_zb a_zr a_zc a_zq a_ze a_za a_zd a_u a_g a_gb a_gr a_ge a_go a_gc zz_pieceCount zz_ruleCount zz_columnCount zz_behind_57 zz_readersOf zz_endsOf zz_allowedBy zz_deniedBy uu_allows uu_permissions gg_pieceCount gg_depth gg_ends gg_behind gg_readersOf) [(3, .int l3_57), (2, .ref a_g), (0, .ref a_z), (1, .ref a_u)] [] 92 := by
        intro l3_57 zz_behind_57 h
        refine k_iconst C d_Union_add_92 (v := (0 : Int32)) (by decide) rfl ?_
        refine k_istore_n (lv' := [(3, .int (0 : Int32)), (2, .ref a_g), (0, .ref a_z), (1, .ref a_u)]) C d_Union_add_93 rfl (by decide) rfl rfl ?_
        have X94_0 : ∀ (l3_94 : Int32) (zz_readersOf_94 : Nat → Int64), (Option.bind (f_Union_moved gg_ends zz_pieceCount) fun r22 => (if inB zz_ruleCount 6 = true then (if uu_allows = 0 then (f_Union_add_J165 uu_allows uu_permissions gg_pieceCount zz_ruleCount (0 : Int32) zz_pieceCount zz_ruleCount zz_behind_57 zz_readersOf_94 (vp_updL zz_endsOf zz_ruleCount.toNatClampNeg r22) zz_allowedBy zz_deniedBy) else (f_Union_add_J165 uu_allows uu_permissions gg_pieceCount zz_ruleCount uu_permissions zz_pieceCount zz_ruleCount zz_behind_57 zz_readersOf_94 (vp_updL zz_endsOf zz_ruleCount.toNatClampNeg r22) zz_allowedBy zz_deniedBy)) else none)) = some (o_zz_pieceCount, o_zz_ruleCount, o_zz_behind, o_zz_readersOf, o_zz_endsOf, o_zz_allowedBy, o_zz_deniedBy) → Wk X { frames := 1, cells := 0, slots := 0, locals := 22 } 4 D (va_A (w_Union_add (cI := cI) (cJ := cJ) (cC := cC) (cZ := cZ) (cR := cR) a_z a_zb a_zr a_zc a_zq a_ze a_za a_zd a_u a_g a_gb a_gr a_ge a_go a_gc zz_pieceCount zz_ruleCount zz_columnCount zz_behind zz_readersOf zz_endsOf zz_allowedBy zz_deniedBy uu_allows uu_permissions gg_pieceCount gg_depth gg_ends gg_behind gg_readersOf) (xs X).heap.size) 0 0 (GE X D (w_Union_add (cI := cI) (cJ := cJ) (cC := cC) (cZ := cZ) (cR := cR) a_z a_zb a_zr a_zc a_zq a_ze a_za a_zd a_u a_g a_gb a_gr a_ge a_go a_gc zz_pieceCount zz_ruleCount zz_columnCount zz_behind zz_readersOf zz_endsOf zz_allowedBy zz_deniedBy uu_allows uu_permissions gg_pieceCount gg_depth gg_ends gg_behind gg_readersOf) (fun (o : Option Value) (w : va_W) => o = none ∧ w = w_Union_add (cI := cI) (cJ := cJ) (cC := cC) (cZ := cZ) (cR := cR) a_z a_zb a_zr a_zc a_zq a_ze a_za a_zd a_u a_g a_gb a_gr a_ge a_go a_gc o_zz_pieceCount o_zz_ruleCount zz_columnCount o_zz_behind o_zz_readersOf o_zz_endsOf o_zz_allowedBy o_zz_deniedBy uu_allows uu_permissions gg_pieceCount gg_depth gg_ends gg_behind gg_readersOf) 0 0) (w_Union_add (cI := cI) (cJ := cJ) (cC := cC) (cZ := cZ) (cR := cR) a_z a_zb a_zr a_zc a_zq a_ze a_za a_zd a_u a_g a_gb a_gr a_ge a_go a_gc zz_pieceCount zz_ruleCount zz_columnCount zz_behind_57 zz_readersOf_94 zz_endsOf zz_allowedBy zz_deniedBy uu_allows uu_permissions gg_pieceCount gg_depth gg_ends gg_behind gg_readersOf) [(3, .int l3_94), (2, .ref a_g), (0, .ref a_z), (1, .ref a_u)] [] 125 := by
          intro l3_94 zz_readersOf_94 h
          refine k_aload_n C d_Union_add_125 rfl 2 rfl rfl ?_
          refine k_getf C d_Union_add_126 hin_Union rfl 4 (by decide) mw113 0 rfl rfl rfl ?_
          refine k_aload_n C d_Union_add_129 rfl 2 rfl rfl ?_
          refine k_getf C d_Union_add_130 hin_Union rfl 8 (by decide) mw107 0 rfl rfl rfl ?_
          refine k_aload_n C d_Union_add_133 rfl 2 rfl rfl ?_
          refine k_aload_n C d_Union_add_134 rfl 1 rfl rfl ?_
          refine k_getN C d_Union_add_135 hin_Glob rfl 7 (by decide) mw114 7 rfl rfl rfl ?_
          obtain ⟨r22, hc23, h⟩ := bd h
          refine k_callVd (As := [.long gg_ends]) (st := [.int zz_ruleCount, .ref a_ze]) (st' := [.long r22, .int zz_ruleCount, .ref a_ze]) (wn := w_Union_add (cI := cI) (cJ := cJ) (cC := cC) (cZ := cZ) (cR := cR) a_z a_zb a_zr a_zc a_zq a_ze a_za a_zd a_u a_g a_gb a_gr a_ge a_go a_gc zz_pieceCount zz_ruleCount zz_columnCount zz_behind_57 zz_readersOf_94 zz_endsOf zz_allowedBy zz_deniedBy uu_allows uu_permissions gg_pieceCount gg_depth gg_ends gg_behind gg_readersOf) C d_Union_add_138 (c_Union_moved fu a_z a_zb a_zr a_zc a_zq a_ze a_za a_zd zz_pieceCount zz_ruleCount zz_columnCount gg_ends r22 hc23) co_Union_moved cov_Union_moved mw120 0 rfl rfl (by decide) (by decide) (Nat.le_of_ble_eq_true rfl) rfl [0] [1, 2, 3, 4, 5, 6, 7, 8, 9] [9, 0, 1, 2, 3, 4, 5, 6, 7, 8] rfl (by decide +kernel) rfl (by decide +kernel) (by decide +kernel) rfl (by decide +kernel) rfl rfl ?_
          have g24 := gd1 h
          replace h := gd2 h
          refine k_last (ws' := w_Union_add (cI := cI) (cJ := cJ) (cC := cC) (cZ := cZ) (cR := cR) a_z a_zb a_zr a_zc a_zq a_ze a_za a_zd a_u a_g a_gb a_gr a_ge a_go a_gc zz_pieceCount zz_ruleCount zz_columnCount zz_behind_57 zz_readersOf_94 (vp_updL zz_endsOf zz_ruleCount.toNatClampNeg r22) zz_allowedBy zz_deniedBy uu_allows uu_permissions gg_pieceCount gg_depth gg_ends gg_behind gg_readersOf) C d_Union_add_141 3 1 rfl rfl (inB_in g24) rfl rfl ?_
          refine k_aload_n C d_Union_add_142 rfl 2 rfl rfl ?_
          refine k_getf C d_Union_add_143 hin_Union rfl 5 (by decide) mw115 0 rfl rfl rfl ?_
          refine k_aload_n C d_Union_add_146 rfl 2 rfl rfl ?_
          refine k_getf C d_Union_add_147 hin_Union rfl 8 (by decide) mw107 0 rfl rfl rfl ?_
          refine k_aload_n C d_Union_add_150 rfl 3 rfl rfl ?_
          refine k_getN C d_Union_add_151 hin_Rule rfl 1 (by decide) mw116 6 rfl rfl rfl ?_
          refine k_if_eq (tgt := 164) C d_Union_add_154 (by decide) rfl (fun c25 => ?_) (fun c25 => ?_)
          · replace h := gi_t h c25
            refine k_iconst C d_Union_add_164 (v := (0 : Int32)) (by decide) rfl ?_
            exact J165 l3_94 zz_ruleCount (0 : Int32) zz_pieceCount zz_ruleCount zz_behind_57 zz_readersOf_94 (vp_updL zz_endsOf zz_ruleCount.toNatClampNeg r22) zz_allowedBy zz_deniedBy h
          · replace h := gi_f h c25
            refine k_aload_n C d_Union_add_157 rfl 3 rfl rfl ?_
            refine k_getN C d_Union_add_158 hin_Rule rfl 2 (by decide) mw118 6 rfl rfl rfl ?_
            refine k_goto (tgt := 165) C d_Union_add_161 (by decide) ?_
            exact J165 l3_94 zz_ruleCount uu_permissions zz_pieceCount zz_ruleCount zz_behind_57 zz_readersOf_94 (vp_updL zz_endsOf zz_ruleCount.toNatClampNeg r22) zz_allowedBy zz_deniedBy h
        have L94 : ∀ (kk94_0 : Int32 → (Nat → Int64) → Option (Int32 × Int32 × (Nat → Int64) × (Nat → Int64) × (Nat → Int64) × (Nat → Int32) × (Nat → Int32))) (hX94_0 : ∀ (l3_94 : Int32) (zz_readersOf_94 : Nat → Int64), kk94_0 l3_94 zz_readersOf_94 = some (o_zz_pieceCount, o_zz_ruleCount, o_zz_behind, o_zz_readersOf, o_zz_endsOf, o_zz_allowedBy, o_zz_deniedBy) → Wk X { frames := 1, cells := 0, slots := 0, locals := 22 } 4 D (va_A (w_Union_add (cI := cI) (cJ := cJ) (cC := cC) (cZ := cZ) (cR := cR) a_z a_zb a_zr a_zc a_zq a_ze a_za a_zd a_u a_g a_gb a_gr a_ge a_go a_gc zz_pieceCount zz_ruleCount zz_columnCount zz_behind zz_readersOf zz_endsOf zz_allowedBy zz_deniedBy uu_allows uu_permissions gg_pieceCount gg_depth gg_ends gg_behind gg_readersOf) (xs X).heap.size) 0 0 (GE X D (w_Union_add (cI := cI) (cJ := cJ) (cC := cC) (cZ := cZ) (cR := cR) a_z a_zb a_zr a_zc a_zq a_ze a_za a_zd a_u a_g a_gb a_gr a_ge a_go a_gc zz_pieceCount zz_ruleCount zz_columnCount zz_behind zz_readersOf zz_endsOf zz_allowedBy zz_deniedBy uu_allows uu_permissions gg_pieceCount gg_depth gg_ends gg_behind gg_readersOf) (fun (o : Option Value) (w : va_W) => o = none ∧ w = w_Union_add (cI := cI) (cJ := cJ) (cC := cC) (cZ := cZ) (cR := cR) a_z a_zb a_zr a_zc a_zq a_ze a_za a_zd a_u a_g a_gb a_gr a_ge a_go a_gc o_zz_pieceCount o_zz_ruleCount zz_columnCount o_zz_behind o_zz_readersOf o_zz_endsOf o_zz_allowedBy o_zz_deniedBy uu_allows uu_permissions gg_pieceCount gg_depth gg_ends gg_behind gg_readersOf) 0 0) (w_Union_add (cI := cI) (cJ := cJ) (cC := cC) (cZ := cZ) (cR := cR) a_z a_zb a_zr a_zc a_zq a_ze a_za a_zd a_u a_g a_gb a_gr a_ge a_go a_gc zz_pieceCount zz_ruleCount zz_columnCount zz_behind_57 zz_readersOf_94 zz_endsOf zz_allowedBy zz_deniedBy uu_allows uu_permissions gg_pieceCount gg_depth gg_ends gg_behind gg_readersOf) [(3, .int l3_94), (2, .ref a_g), (0, .ref a_z), (1, .ref a_u)] [] 125) (n_94 : Nat) (l3_94 : Int32) (zz_readersOf_94 : Nat → Int64), f_Union_add_L94 zz_pieceCount gg_readersOf kk94_0 n_94 l3_94 zz_readersOf_94 = some (o_zz_pieceCount, o_zz_ruleCount, o_zz_behind, o_zz_readersOf, o_zz_endsOf, o_zz_allowedBy, o_zz_deniedBy) → Wk X { frames := 1, cells := 0, slots := 0, locals := 22 } 4 D (va_A (w_Union_add (cI := cI) (cJ := cJ) (cC := cC) (cZ := cZ) (cR := cR) a_z a_zb a_zr a_zc a_zq a_ze a_za a_zd a_u a_g a_gb a_gr a_ge a_go a_gc zz_pieceCount zz_ruleCount zz_columnCount zz_behind zz_readersOf zz_endsOf zz_allowedBy zz_deniedBy uu_allows uu_permissions gg_pieceCount gg_depth gg_ends gg_behind gg_readersOf) (xs X).heap.size) 0 0 (GE X D (w_Union_add (cI := cI) (cJ := cJ) (cC := cC) (cZ := cZ) (cR := cR) a_z a_zb a_zr a_zc a_zq a_ze a_za a_zd a_u a_g a_gb a_gr a_ge a_go a_gc zz_pieceCount zz_ruleCount zz_columnCount zz_behind zz_readersOf zz_endsOf zz_allowedBy zz_deniedBy uu_allows uu_permissions gg_pieceCount gg_depth gg_ends gg_behind gg_readersOf) (fun (o : Option Value) (w : va_W) => o = none ∧ w = w_Union_add (cI := cI) (cJ := cJ) (cC := cC) (cZ := cZ) (cR := cR) a_z a_zb a_zr a_zc a_zq a_ze a_za a_zd a_u a_g a_gb a_gr a_ge a_go a_gc o_zz_pieceCount o_zz_ruleCount zz_columnCount o_zz_behind o_zz_readersOf o_zz_endsOf o_zz_allowedBy o_zz_deniedBy uu_allows uu_permissions gg_pieceCount gg_depth gg_ends gg_behind gg_readersOf) 0 0) (w_Union_add (cI := cI) (cJ := cJ) (cC := cC) (cZ := cZ) (cR := cR) a_z a_zb a_zr a_zc a_zq a_ze a_za a_zd a_u a_g a_gb a_gr a_ge a_go a_gc zz_pieceCount zz_ruleCount zz_columnCount zz_behind_57 zz_readersOf_94 zz_endsOf zz_allowedBy zz_deniedBy uu_allows uu_permissions gg_pieceCount gg_depth gg_ends gg_behind gg_readersOf) [(3, .int l3_94), (2, .ref a_g), (0, .ref a_z), (1, .ref a_u)] [] 94 := by
          intro kk94_0 hX94_0 n_94
          induction n_94 with
          | zero =>
            intro l3_94 zz_readersOf_94 h
            exact nS h
          | succ n_94 ih94 =>
            intro l3_94 zz_readersOf_94 h
            replace h := (f_Union_add_L94_s _ _ _ _ _ _).symm.trans h
            refine k_iload_n C d_Union_add_94 rfl 0 rfl rfl ?_
            refine k_bipush C d_Union_add_95 (v := (95 : Int32)) (by decide) rfl ?_
            refine k_icmp_ge (tgt := 125) C d_Union_add_97 (by decide) rfl (fun c16 => ?_) (fun c16 => ?_)
            · replace h := gi_t h c16
              exact hX94_0 l3_94 zz_readersOf_94 h
            · replace h := gi_f h c16
              refine k_aload_n C d_Union_add_100 rfl 2 rfl rfl ?_
              refine k_getf C d_Union_add_101 hin_Union rfl 1 (by decide) mw105 0 rfl rfl rfl ?_
              refine k_iload_n C d_Union_add_104 rfl 0 rfl rfl ?_
              refine k_dup2_11 C d_Union_add_105 rfl rfl rfl ?_
              have g17 := gd1 h
              replace h := gd2 h
              refine k_lald C d_Union_add_106 2 1 rfl rfl (inB_in g17) rfl ?_
              refine k_aload_n C d_Union_add_107 rfl 2 rfl rfl ?_
              refine k_aload_n C d_Union_add_108 rfl 1 rfl rfl ?_
              refine k_getN C d_Union_add_109 hin_Glob rfl 1 (by decide) mw119 7 rfl rfl rfl ?_
              refine k_iload_n C d_Union_add_112 rfl 0 rfl rfl ?_
              have g18 := gd1 h
              replace h := gd2 h
              refine k_lald C d_Union_add_113 9 1 rfl rfl (inB_in g18) rfl ?_
              obtain ⟨r19, hc20, h⟩ := bd h
              refine k_callVd (As := [.long (gg_readersOf l3_94.toNatClampNeg)]) (st := [.long (zz_readersOf_94 l3_94.toNatClampNeg), .int l3_94, .ref a_zr]) (st' := [.long r19, .long (zz_readersOf_94 l3_94.toNatClampNeg), .int l3_94, .ref a_zr]) (wn := w_Union_add (cI := cI) (cJ := cJ) (cC := cC) (cZ := cZ) (cR := cR) a_z a_zb a_zr a_zc a_zq a_ze a_za a_zd a_u a_g a_gb a_gr a_ge a_go a_gc zz_pieceCount zz_ruleCount zz_columnCount zz_behind_57 zz_readersOf_94 zz_endsOf zz_allowedBy zz_deniedBy uu_allows uu_permissions gg_pieceCount gg_depth gg_ends gg_behind gg_readersOf) C d_Union_add_114 (c_Union_moved fu a_z a_zb a_zr a_zc a_zq a_ze a_za a_zd zz_pieceCount zz_ruleCount zz_columnCount (gg_readersOf l3_94.toNatClampNeg) r19 hc20) co_Union_moved cov_Union_moved mw120 0 rfl rfl (by decide) (by decide) (Nat.le_of_ble_eq_true rfl) rfl [0] [1, 2, 3, 4, 5, 6, 7, 8, 9] [9, 0, 1, 2, 3, 4, 5, 6, 7, 8] rfl (by decide +kernel) rfl (by decide +kernel) (by decide +kernel) rfl (by decide +kernel) rfl rfl ?_
              refine k_lor C d_Union_add_117 rfl ?_
              have g21 := gd1 h
              replace h := gd2 h
              refine k_last (ws' := w_Union_add (cI := cI) (cJ := cJ) (cC := cC) (cZ := cZ) (cR := cR) a_z a_zb a_zr a_zc a_zq a_ze a_za a_zd a_u a_g a_gb a_gr a_ge a_go a_gc zz_pieceCount zz_ruleCount zz_columnCount zz_behind_57 (vp_updL zz_readersOf_94 l3_94.toNatClampNeg ((zz_readersOf_94 l3_94.toNatClampNeg) ||| r19)) zz_endsOf zz_allowedBy zz_deniedBy uu_allows uu_permissions gg_pieceCount gg_depth gg_ends gg_behind gg_readersOf) C d_Union_add_118 2 1 rfl rfl (inB_in g21) rfl rfl ?_
              refine k_iinc (lv' := [(3, .int (l3_94 + 1)), (2, .ref a_g), (0, .ref a_z), (1, .ref a_u)]) C d_Union_add_119 0 rfl rfl (by decide) rfl rfl ?_
              refine k_goto (tgt := 94) C d_Union_add_122 (by decide) ?_
              exact ih94 (l3_94 + 1) (vp_updL zz_readersOf_94 l3_94.toNatClampNeg ((zz_readersOf_94 l3_94.toNatClampNeg) ||| r19)) h
        exact L94 (fun l3_94 zz_readersOf_94 => (Option.bind (f_Union_moved gg_ends zz_pieceCount) fun r22 => (if inB zz_ruleCount 6 = true then (if uu_allows = 0 then (f_Union_add_J165 uu_allows uu_permissions gg_pieceCount zz_ruleCount (0 : Int32) zz_pieceCount zz_ruleCount zz_behind_57 zz_readersOf_94 (vp_updL zz_endsOf zz_ruleCount.toNatClampNeg r22) zz_allowedBy zz_deniedBy) else (f_Union_add_J165 uu_allows uu_permissions gg_pieceCount zz_ruleCount uu_permissions zz_pieceCount zz_ruleCount zz_behind_57 zz_readersOf_94 (vp_updL zz_endsOf zz_ruleCount.toNatClampNeg r22) zz_allowedBy zz_deniedBy)) else none))) X94_0 fu (0 : Int32) zz_readersOf h
      have L57 : ∀ (kk57_0 : Int32 → (Nat → Int64) → Option (Int32 × Int32 × (Nat → Int64) × (Nat → Int64) × (Nat → Int64) × (Nat → Int32) × (Nat → Int32))) (hX57_0 : ∀ (l3_57 : Int32) (zz_behind_57 : Nat → Int64), kk57_0 l3_57 zz_behind_57 = some (o_zz_pieceCount, o_zz_ruleCount, o_zz_behind, o_zz_readersOf, o_zz_endsOf, o_zz_allowedBy, o_zz_deniedBy) → Wk X { frames := 1, cells := 0, slots := 0, locals := 22 } 4 D (va_A (w_Union_add (cI := cI) (cJ := cJ) (cC := cC) (cZ := cZ) (cR := cR) a_z a_zb a_zr a_zc a_zq a_ze a_za a_zd a_u a_g a_gb a_gr a_ge a_go a_gc zz_pieceCount zz_ruleCount zz_columnCount zz_behind zz_readersOf zz_endsOf zz_allowedBy zz_deniedBy uu_allows uu_permissions gg_pieceCount gg_depth gg_ends gg_behind gg_readersOf) (xs X).heap.size) 0 0 (GE X D (w_Union_add (cI := cI) (cJ := cJ) (cC := cC) (cZ := cZ) (cR := cR) a_z a_zb a_zr a_zc a_zq a_ze a_za a_zd a_u a_g a_gb a_gr a_ge a_go a_gc zz_pieceCount zz_ruleCount zz_columnCount zz_behind zz_readersOf zz_endsOf zz_allowedBy zz_deniedBy uu_allows uu_permissions gg_pieceCount gg_depth gg_ends gg_behind gg_readersOf) (fun (o : Option Value) (w : va_W) => o = none ∧ w = w_Union_add (cI := cI) (cJ := cJ) (cC := cC) (cZ := cZ) (cR := cR) a_z a_zb a_zr a_zc a_zq a_ze a_za a_zd a_u a_g a_gb a_gr a_ge a_go a_gc o_zz_pieceCount o_zz_ruleCount zz_columnCount o_zz_behind o_zz_readersOf o_zz_endsOf o_zz_allowedBy o_zz_deniedBy uu_allows uu_permissions gg_pieceCount gg_depth gg_ends gg_behind gg_readersOf) 0 0) (w_Union_add (cI := cI) (cJ := cJ) (cC := cC) (cZ := cZ) (cR := cR) a_z a_zb a_zr a_zc a_zq a_ze a_za a_zd a_u a_g a_gb a_gr a_ge a_go a_gc zz_pieceCount zz_ruleCount zz_columnCount zz_behind_57 zz_readersOf zz_endsOf zz_allowedBy zz_deniedBy uu_allows uu_permissions gg_pieceCount gg_depth gg_ends gg_behind gg_readersOf) [(3, .int l3_57), (2, .ref a_g), (0, .ref a_z), (1, .ref a_u)] [] 92) (n_57 : Nat) (l3_57 : Int32) (zz_behind_57 : Nat → Int64), f_Union_add_L57 zz_pieceCount gg_pieceCount gg_behind kk57_0 n_57 l3_57 zz_behind_57 = some (o_zz_pieceCount, o_zz_ruleCount, o_zz_behind, o_zz_readersOf, o_zz_endsOf, o_zz_allowedBy, o_zz_deniedBy) → Wk X { frames := 1, cells := 0, slots := 0, locals := 22 } 4 D (va_A (w_Union_add (cI := cI) (cJ := cJ) (cC := cC) (cZ := cZ) (cR := cR) a_z a_zb a_zr a_zc a_zq a_ze a_za a_zd a_u a_g a_gb a_gr a_ge a_go a_gc zz_pieceCount zz_ruleCount zz_columnCount zz_behind zz_readersOf zz_endsOf zz_allowedBy zz_deniedBy uu_allows uu_permissions gg_pieceCount gg_depth gg_ends gg_behind gg_readersOf) (xs X).heap.size) 0 0 (GE X D (w_Union_add (cI := cI) (cJ := cJ) (cC := cC) (cZ := cZ) (cR := cR) a_z a_zb a_zr a_zc a_zq a_ze a_za a_zd a_u a_g a_gb a_gr a_ge a_go a_gc zz_pieceCount zz_ruleCount zz_columnCount zz_behind zz_readersOf zz_endsOf zz_allowedBy zz_deniedBy uu_allows uu_permissions gg_pieceCount gg_depth gg_ends gg_behind gg_readersOf) (fun (o : Option Value) (w : va_W) => o = none ∧ w = w_Union_add (cI := cI) (cJ := cJ) (cC := cC) (cZ := cZ) (cR := cR) a_z a_zb a_zr a_zc a_zq a_ze a_za a_zd a_u a_g a_gb a_gr a_ge a_go a_gc o_zz_pieceCount o_zz_ruleCount zz_columnCount o_zz_behind o_zz_readersOf o_zz_endsOf o_zz_allowedBy o_zz_deniedBy uu_allows uu_permissions gg_pieceCount gg_depth gg_ends gg_behind gg_readersOf) 0 0) (w_Union_add (cI := cI) (cJ := cJ) (cC := cC) (cZ := cZ) (cR := cR) a_z a_zb a_zr a_zc a_zq a_ze a_za a_zd a_u a_g a_gb a_gr a_ge a_go a_gc zz_pieceCount zz_ruleCount zz_columnCount zz_behind_57 zz_readersOf zz_endsOf zz_allowedBy zz_deniedBy uu_allows uu_permissions gg_pieceCount gg_depth gg_ends gg_behind gg_readersOf) [(3, .int l3_57), (2, .ref a_g), (0, .ref a_z), (1, .ref a_u)] [] 57 := by
        intro kk57_0 hX57_0 n_57
        induction n_57 with
        | zero =>
          intro l3_57 zz_behind_57 h
          exact nS h
        | succ n_57 ih57 =>
          intro l3_57 zz_behind_57 h
          replace h := (f_Union_add_L57_s _ _ _ _ _ _ _).symm.trans h
          refine k_iload_n C d_Union_add_57 rfl 0 rfl rfl ?_
          refine k_aload_n C d_Union_add_58 rfl 1 rfl rfl ?_
          refine k_getN C d_Union_add_59 hin_Glob rfl 5 (by decide) mw111 7 rfl rfl rfl ?_
          refine k_icmp_gt (tgt := 92) C d_Union_add_62 (by decide) rfl (fun c11 => ?_) (fun c11 => ?_)
          · replace h := gi_t h c11
            exact hX57_0 l3_57 zz_behind_57 h
          · replace h := gi_f h c11
            refine k_aload_n C d_Union_add_65 rfl 2 rfl rfl ?_
            refine k_getf C d_Union_add_66 hin_Union rfl 0 (by decide) mw104 0 rfl rfl rfl ?_
            refine k_aload_n C d_Union_add_69 rfl 2 rfl rfl ?_
            refine k_getf C d_Union_add_70 hin_Union rfl 7 (by decide) mw106 0 rfl rfl rfl ?_
            refine k_iload_n C d_Union_add_73 rfl 0 rfl rfl ?_
            refine k_iadd C d_Union_add_74 rfl ?_
            refine k_aload_n C d_Union_add_75 rfl 2 rfl rfl ?_
            refine k_aload_n C d_Union_add_76 rfl 1 rfl rfl ?_
            refine k_getN C d_Union_add_77 hin_Glob rfl 0 (by decide) mw112 7 rfl rfl rfl ?_
            refine k_iload_n C d_Union_add_80 rfl 0 rfl rfl ?_
            have g12 := gd1 h
            replace h := gd2 h
            refine k_lald C d_Union_add_81 8 1 rfl rfl (inB_in g12) rfl ?_
            obtain ⟨r13, hc14, h⟩ := bd h
            refine k_callVd (As := [.long (gg_behind l3_57.toNatClampNeg)]) (st := [.int (zz_pieceCount + l3_57), .ref a_zb]) (st' := [.long r13, .int (zz_pieceCount + l3_57), .ref a_zb]) (wn := w_Union_add (cI := cI) (cJ := cJ) (cC := cC) (cZ := cZ) (cR := cR) a_z a_zb a_zr a_zc a_zq a_ze a_za a_zd a_u a_g a_gb a_gr a_ge a_go a_gc zz_pieceCount zz_ruleCount zz_columnCount zz_behind_57 zz_readersOf zz_endsOf zz_allowedBy zz_deniedBy uu_allows uu_permissions gg_pieceCount gg_depth gg_ends gg_behind gg_readersOf) C d_Union_add_82 (c_Union_moved fu a_z a_zb a_zr a_zc a_zq a_ze a_za a_zd zz_pieceCount zz_ruleCount zz_columnCount (gg_behind l3_57.toNatClampNeg) r13 hc14) co_Union_moved cov_Union_moved mw120 0 rfl rfl (by decide) (by decide) (Nat.le_of_ble_eq_true rfl) rfl [0] [1, 2, 3, 4, 5, 6, 7, 8, 9] [9, 0, 1, 2, 3, 4, 5, 6, 7, 8] rfl (by decide +kernel) rfl (by decide +kernel) (by decide +kernel) rfl (by decide +kernel) rfl rfl ?_
            have g15 := gd1 h
            replace h := gd2 h
            refine k_last (ws' := w_Union_add (cI := cI) (cJ := cJ) (cC := cC) (cZ := cZ) (cR := cR) a_z a_zb a_zr a_zc a_zq a_ze a_za a_zd a_u a_g a_gb a_gr a_ge a_go a_gc zz_pieceCount zz_ruleCount zz_columnCount (vp_updL zz_behind_57 (zz_pieceCount + l3_57).toNatClampNeg r13) zz_readersOf zz_endsOf zz_allowedBy zz_deniedBy uu_allows uu_permissions gg_pieceCount gg_depth gg_ends gg_behind gg_readersOf) C d_Union_add_85 1 1 rfl rfl (inB_in g15) rfl rfl ?_
            refine k_iinc (lv' := [(3, .int (l3_57 + 1)), (2, .ref a_g), (0, .ref a_z), (1, .ref a_u)]) C d_Union_add_86 0 rfl rfl (by decide) rfl rfl ?_
            refine k_goto (tgt := 57) C d_Union_add_89 (by decide) ?_
            exact ih57 (l3_57 + 1) (vp_updL zz_behind_57 (zz_pieceCount + l3_57).toNatClampNeg r13) h
      exact L57 (fun l3_57 zz_behind_57 => (f_Union_add_L94 zz_pieceCount gg_readersOf (fun l3_94 zz_readersOf_94 => (Option.bind (f_Union_moved gg_ends zz_pieceCount) fun r22 => (if inB zz_ruleCount 6 = true then (if uu_allows = 0 then (f_Union_add_J165 uu_allows uu_permissions gg_pieceCount zz_ruleCount (0 : Int32) zz_pieceCount zz_ruleCount zz_behind_57 zz_readersOf_94 (vp_updL zz_endsOf zz_ruleCount.toNatClampNeg r22) zz_allowedBy zz_deniedBy) else (f_Union_add_J165 uu_allows uu_permissions gg_pieceCount zz_ruleCount uu_permissions zz_pieceCount zz_ruleCount zz_behind_57 zz_readersOf_94 (vp_updL zz_endsOf zz_ruleCount.toNatClampNeg r22) zz_allowedBy zz_deniedBy)) else none))) fu (0 : Int32) zz_readersOf)) X57_0 fu (1 : Int32) (vp_updL zz_behind (0 : Int32).toNatClampNeg ((zz_behind (0 : Int32).toNatClampNeg) ||| r8)) h
    · replace h := gi_f h c5
      exact k_vret C d_Union_add_30 (tr1 h (fun t => (fun (o : Option Value) (w : va_W) => o = none ∧ w = w_Union_add (cI := cI) (cJ := cJ) (cC := cC) (cZ := cZ) (cR := cR) a_z a_zb a_zr a_zc a_zq a_ze a_za a_zd a_u a_g a_gb a_gr a_ge a_go a_gc (t.1) (t.2.1) zz_columnCount (t.2.2.1) (t.2.2.2.1) (t.2.2.2.2.1) (t.2.2.2.2.2.1) (t.2.2.2.2.2.2) uu_allows uu_permissions gg_pieceCount gg_depth gg_ends gg_behind gg_readersOf) none (w_Union_add (cI := cI) (cJ := cJ) (cC := cC) (cZ := cZ) (cR := cR) a_z a_zb a_zr a_zc a_zq a_ze a_za a_zd a_u a_g a_gb a_gr a_ge a_go a_gc zz_pieceCount zz_ruleCount zz_columnCount zz_behind zz_readersOf zz_endsOf zz_allowedBy zz_deniedBy uu_allows uu_permissions gg_pieceCount gg_depth gg_ends gg_behind gg_readersOf)) ⟨rfl, rfl⟩)
theorem d_Union_groupSymbols_0 : decode b_Union_groupSymbols 0 = .ok (.aload_n 0, 1) := by decide +kernel
theorem d_Union_groupSymbols_1 : decode b_Union_groupSymbols 1 = .ok (.iconst 0, 1) := by decide +kernel
theorem d_Union_groupSymbols_2 : decode b_Union_groupSymbols 2 = .ok (.putfield 75, 3) := by decide +kernel
theorem d_Union_groupSymbols_5 : decode b_Union_groupSymbols 5 = .ok (.iconst 0, 1) := by decide +kernel
theorem d_Union_groupSymbols_6 : decode b_Union_groupSymbols 6 = .ok (.istore_n 1, 1) := by decide +kernel
theorem d_Union_groupSymbols_7 : decode b_Union_groupSymbols 7 = .ok (.iload_n 1, 1) := by decide +kernel
theorem d_Union_groupSymbols_8 : decode b_Union_groupSymbols 8 = .ok (.bipush 95, 2) := by decide +kernel
theorem d_Union_groupSymbols_10 : decode b_Union_groupSymbols 10 = .ok (.if_icmp .ge 78, 3) := by decide +kernel
theorem d_Union_groupSymbols_13 : decode b_Union_groupSymbols 13 = .ok (.iconst 0, 1) := by decide +kernel
theorem d_Union_groupSymbols_14 : decode b_Union_groupSymbols 14 = .ok (.istore_n 2, 1) := by decide +kernel
theorem d_Union_groupSymbols_15 : decode b_Union_groupSymbols 15 = .ok (.iload_n 2, 1) := by decide +kernel
theorem d_Union_groupSymbols_16 : decode b_Union_groupSymbols 16 = .ok (.aload_n 0, 1) := by decide +kernel
theorem d_Union_groupSymbols_17 : decode b_Union_groupSymbols 17 = .ok (.getfield 75, 3) := by decide +kernel
theorem d_Union_groupSymbols_20 : decode b_Union_groupSymbols 20 = .ok (.if_icmp .ge 25, 3) := by decide +kernel
theorem d_Union_groupSymbols_23 : decode b_Union_groupSymbols 23 = .ok (.aload_n 0, 1) := by decide +kernel
theorem d_Union_groupSymbols_24 : decode b_Union_groupSymbols 24 = .ok (.getfield 22, 3) := by decide +kernel
theorem d_Union_groupSymbols_27 : decode b_Union_groupSymbols 27 = .ok (.iload_n 2, 1) := by decide +kernel
theorem d_Union_groupSymbols_28 : decode b_Union_groupSymbols 28 = .ok (.laload, 1) := by decide +kernel
theorem d_Union_groupSymbols_29 : decode b_Union_groupSymbols 29 = .ok (.aload_n 0, 1) := by decide +kernel
theorem d_Union_groupSymbols_30 : decode b_Union_groupSymbols 30 = .ok (.getfield 15, 3) := by decide +kernel
theorem d_Union_groupSymbols_33 : decode b_Union_groupSymbols 33 = .ok (.iload_n 1, 1) := by decide +kernel
theorem d_Union_groupSymbols_34 : decode b_Union_groupSymbols 34 = .ok (.laload, 1) := by decide +kernel
theorem d_Union_groupSymbols_35 : decode b_Union_groupSymbols 35 = .ok (.lcmp, 1) := by decide +kernel
theorem d_Union_groupSymbols_36 : decode b_Union_groupSymbols 36 = .ok (.ifCond .eq 9, 3) := by decide +kernel
theorem d_Union_groupSymbols_39 : decode b_Union_groupSymbols 39 = .ok (.iinc 2 1, 3) := by decide +kernel
theorem d_Union_groupSymbols_42 : decode b_Union_groupSymbols 42 = .ok (.goto (-27), 3) := by decide +kernel
theorem d_Union_groupSymbols_45 : decode b_Union_groupSymbols 45 = .ok (.iload_n 2, 1) := by decide +kernel
theorem d_Union_groupSymbols_46 : decode b_Union_groupSymbols 46 = .ok (.aload_n 0, 1) := by decide +kernel
theorem d_Union_groupSymbols_47 : decode b_Union_groupSymbols 47 = .ok (.getfield 75, 3) := by decide +kernel
theorem d_Union_groupSymbols_50 : decode b_Union_groupSymbols 50 = .ok (.if_icmp .ne 25, 3) := by decide +kernel
theorem d_Union_groupSymbols_53 : decode b_Union_groupSymbols 53 = .ok (.aload_n 0, 1) := by decide +kernel
theorem d_Union_groupSymbols_54 : decode b_Union_groupSymbols 54 = .ok (.getfield 22, 3) := by decide +kernel
theorem d_Union_groupSymbols_57 : decode b_Union_groupSymbols 57 = .ok (.iload_n 2, 1) := by decide +kernel
theorem d_Union_groupSymbols_58 : decode b_Union_groupSymbols 58 = .ok (.aload_n 0, 1) := by decide +kernel
theorem d_Union_groupSymbols_59 : decode b_Union_groupSymbols 59 = .ok (.getfield 15, 3) := by decide +kernel
theorem d_Union_groupSymbols_62 : decode b_Union_groupSymbols 62 = .ok (.iload_n 1, 1) := by decide +kernel
theorem d_Union_groupSymbols_63 : decode b_Union_groupSymbols 63 = .ok (.laload, 1) := by decide +kernel
theorem d_Union_groupSymbols_64 : decode b_Union_groupSymbols 64 = .ok (.lastore, 1) := by decide +kernel
theorem d_Union_groupSymbols_65 : decode b_Union_groupSymbols 65 = .ok (.aload_n 0, 1) := by decide +kernel
theorem d_Union_groupSymbols_66 : decode b_Union_groupSymbols 66 = .ok (.dup, 1) := by decide +kernel
theorem d_Union_groupSymbols_67 : decode b_Union_groupSymbols 67 = .ok (.getfield 75, 3) := by decide +kernel
theorem d_Union_groupSymbols_70 : decode b_Union_groupSymbols 70 = .ok (.iconst 1, 1) := by decide +kernel
theorem d_Union_groupSymbols_71 : decode b_Union_groupSymbols 71 = .ok (.iadd, 1) := by decide +kernel
theorem d_Union_groupSymbols_72 : decode b_Union_groupSymbols 72 = .ok (.putfield 75, 3) := by decide +kernel
theorem d_Union_groupSymbols_75 : decode b_Union_groupSymbols 75 = .ok (.aload_n 0, 1) := by decide +kernel
theorem d_Union_groupSymbols_76 : decode b_Union_groupSymbols 76 = .ok (.getfield 18, 3) := by decide +kernel
theorem d_Union_groupSymbols_79 : decode b_Union_groupSymbols 79 = .ok (.iload_n 1, 1) := by decide +kernel
theorem d_Union_groupSymbols_80 : decode b_Union_groupSymbols 80 = .ok (.iload_n 2, 1) := by decide +kernel
theorem d_Union_groupSymbols_81 : decode b_Union_groupSymbols 81 = .ok (.iastore, 1) := by decide +kernel
theorem d_Union_groupSymbols_82 : decode b_Union_groupSymbols 82 = .ok (.iinc 1 1, 3) := by decide +kernel
theorem d_Union_groupSymbols_85 : decode b_Union_groupSymbols 85 = .ok (.goto (-78), 3) := by decide +kernel
theorem d_Union_groupSymbols_88 : decode b_Union_groupSymbols 88 = .ok (.return_, 1) := by decide +kernel
abbrev w_Union_groupSymbols {cI cJ cC cZ cR : ClassId} (a_z a_zb a_zr a_zc a_zq a_ze a_za a_zd : Nat) (zz_pieceCount : Int32) (zz_ruleCount : Int32) (zz_columnCount : Int32) (zz_readersOf : Nat → Int64) (zz_columnOf : Nat → Int32) (zz_readersOfColumn : Nat → Int64) : va_W := [(a_z, .inr (4, [.ref a_zb, .ref a_zr, .ref a_zc, .ref a_zq, .ref a_ze, .ref a_za, .ref a_zd, .int zz_pieceCount, .int zz_ruleCount, .int zz_columnCount])), (a_zr, .inl (cJ, 95, .inr (.inl zz_readersOf))), (a_zc, .inl (cI, 95, .inl zz_columnOf)), (a_zq, .inl (cJ, 95, .inr (.inl zz_readersOfColumn)))]
def f_Union_groupSymbols_J45 (zz_readersOf : Nat → Int64) (kb7 : Int32 → Int32 → (Nat → Int32) → (Nat → Int64) → Option (Int32 × (Nat → Int32) × (Nat → Int64))) (l2_j45 : Int32) (l1_j45 : Int32) (zz_columnCount_j45 : Int32) (zz_columnOf_j45 : Nat → Int32) (zz_readersOfColumn_j45 : Nat → Int64) : Option (Int32 × (Nat → Int32) × (Nat → Int64)) := (if l2_j45 = zz_columnCount_j45 then (if inB l1_j45 95 = true then (if inB l2_j45 95 = true then (if inB l1_j45 95 = true then (kb7 (l1_j45 + 1) (zz_columnCount_j45 + (1 : Int32)) (upd zz_columnOf_j45 l1_j45.toNatClampNeg l2_j45) (vp_updL zz_readersOfColumn_j45 l2_j45.toNatClampNeg (zz_readersOf l1_j45.toNatClampNeg))) else none) else none) else none) else (if inB l1_j45 95 = true then (kb7 (l1_j45 + 1) zz_columnCount_j45 (upd zz_columnOf_j45 l1_j45.toNatClampNeg l2_j45) zz_readersOfColumn_j45) else none))
def f_Union_groupSymbols_L15 (zz_readersOf : Nat → Int64) (l1_7 : Int32) (zz_columnCount_7 : Int32) (zz_readersOfColumn_7 : Nat → Int64) (kk15_0 : Int32 → Option (Int32 × (Nat → Int32) × (Nat → Int64))) : Nat → Int32 → Option (Int32 × (Nat → Int32) × (Nat → Int64))
  | 0, _ => none
  | n_15 + 1, l2_15 => (if zz_columnCount_7 ≤ l2_15 then (kk15_0 l2_15) else (if inB l2_15 95 = true then (if inB l1_7 95 = true then (if (lg_cmp (zz_readersOfColumn_7 l2_15.toNatClampNeg) (zz_readersOf l1_7.toNatClampNeg)) = 0 then (kk15_0 l2_15) else (f_Union_groupSymbols_L15 zz_readersOf l1_7 zz_columnCount_7 zz_readersOfColumn_7 kk15_0 n_15 (l2_15 + 1))) else none) else none))
theorem f_Union_groupSymbols_L15_s (zz_readersOf : Nat → Int64) (l1_7 : Int32) (zz_columnCount_7 : Int32) (zz_readersOfColumn_7 : Nat → Int64) (kk15_0 : Int32 → Option (Int32 × (Nat → Int32) × (Nat → Int64))) (n_15 : Nat) (l2_15 : Int32) : f_Union_groupSymbols_L15 zz_readersOf l1_7 zz_columnCount_7 zz_readersOfColumn_7 kk15_0 (n_15 + 1) l2_15 = (if zz_columnCount_7 ≤ l2_15 then (kk15_0 l2_15) else (if inB l2_15 95 = true then (if inB l1_7 95 = true then (if (lg_cmp (zz_readersOfColumn_7 l2_15.toNatClampNeg) (zz_readersOf l1_7.toNatClampNeg)) = 0 then (kk15_0 l2_15) else (f_Union_groupSymbols_L15 zz_readersOf l1_7 zz_columnCount_7 zz_readersOfColumn_7 kk15_0 n_15 (l2_15 + 1))) else none) else none)) := rfl
def f_Union_groupSymbols_L7 (zz_readersOf : Nat → Int64) (fu : Nat) (kk7_0 : Int32 → Int32 → (Nat → Int32) → (Nat → Int64) → Option (Int32 × (Nat → Int32) × (Nat → Int64))) : Nat → Int32 → Int32 → (Nat → Int32) → (Nat → Int64) → Option (Int32 × (Nat → Int32) × (Nat → Int64))
  | 0, _, _, _, _ => none
  | n_7 + 1, l1_7, zz_columnCount_7, zz_columnOf_7, zz_readersOfColumn_7 => (if (95 : Int32) ≤ l1_7 then (kk7_0 l1_7 zz_columnCount_7 zz_columnOf_7 zz_readersOfColumn_7) else (f_Union_groupSymbols_L15 zz_readersOf l1_7 zz_columnCount_7 zz_readersOfColumn_7 (fun l2_15 => (f_Union_groupSymbols_J45 zz_readersOf (fun l1_7 zz_columnCount_7 zz_columnOf_7 zz_readersOfColumn_7 => f_Union_groupSymbols_L7 zz_readersOf fu kk7_0 n_7 l1_7 zz_columnCount_7 zz_columnOf_7 zz_readersOfColumn_7) l2_15 l1_7 zz_columnCount_7 zz_columnOf_7 zz_readersOfColumn_7)) fu (0 : Int32)))
theorem f_Union_groupSymbols_L7_s (zz_readersOf : Nat → Int64) (fu : Nat) (kk7_0 : Int32 → Int32 → (Nat → Int32) → (Nat → Int64) → Option (Int32 × (Nat → Int32) × (Nat → Int64))) (n_7 : Nat) (l1_7 : Int32) (zz_columnCount_7 : Int32) (zz_columnOf_7 : Nat → Int32) (zz_readersOfColumn_7 : Nat → Int64) : f_Union_groupSymbols_L7 zz_readersOf fu kk7_0 (n_7 + 1) l1_7 zz_columnCount_7 zz_columnOf_7 zz_readersOfColumn_7 = (if (95 : Int32) ≤ l1_7 then (kk7_0 l1_7 zz_columnCount_7 zz_columnOf_7 zz_readersOfColumn_7) else (f_Union_groupSymbols_L15 zz_readersOf l1_7 zz_columnCount_7 zz_readersOfColumn_7 (fun l2_15 => (f_Union_groupSymbols_J45 zz_readersOf (fun l1_7 zz_columnCount_7 zz_columnOf_7 zz_readersOfColumn_7 => f_Union_groupSymbols_L7 zz_readersOf fu kk7_0 n_7 l1_7 zz_columnCount_7 zz_columnOf_7 zz_readersOfColumn_7) l2_15 l1_7 zz_columnCount_7 zz_columnOf_7 zz_readersOfColumn_7)) fu (0 : Int32))) := rfl
def f_Union_groupSymbols (fu : Nat) (zz_readersOf : Nat → Int64) (zz_columnOf : Nat → Int32) (zz_readersOfColumn : Nat → Int64) : Option (Int32 × (Nat → Int32) × (Nat → Int64)) := (f_Union_groupSymbols_L7 zz_readersOf fu (fun l1_7 zz_columnCount_7 zz_columnOf_7 zz_readersOfColumn_7 => some (zz_columnCount_7, zz_columnOf_7, zz_readersOfColumn_7)) fu (0 : Int32) (0 : Int32) zz_columnOf zz_readersOfColumn)
set_option maxRecDepth 100000 in
set_option maxHeartbeats 4000000 in
theorem c_Union_groupSymbols {l : Launch} {D : va_G} {cI cJ cC cZ cR : ClassId} (fu : Nat) (a_z a_zb a_zr a_zc a_zq a_ze a_za a_zd : Nat)   (zz_pieceCount : Int32) (zz_ruleCount : Int32) (zz_columnCount : Int32) (zz_readersOf : Nat → Int64) (zz_columnOf : Nat → Int32) (zz_readersOfColumn : Nat → Int64)  (o_zz_columnCount : Int32) (o_zz_columnOf : Nat → Int32) (o_zz_readersOfColumn : Nat → Int64) (h : f_Union_groupSymbols fu zz_readersOf zz_columnOf zz_readersOfColumn = some (o_zz_columnCount, o_zz_columnOf, o_zz_readersOfColumn)) : GM l D (tysL cI cJ cC cZ cR) y_Union_groupSymbols b_Union_groupSymbols 3 none { frames := 0, cells := 0, slots := 0, locals := 0 } [.ref a_z] (w_Union_groupSymbols (cI := cI) (cJ := cJ) (cC := cC) (cZ := cZ) (cR := cR) a_z a_zb a_zr a_zc a_zq a_ze a_za a_zd zz_pieceCount zz_ruleCount zz_columnCount zz_readersOf zz_columnOf zz_readersOfColumn) (fun (o : Option Value) (w : va_W) => o = none ∧ w = w_Union_groupSymbols (cI := cI) (cJ := cJ) (cC := cC) (cZ := cZ) (cR := cR) a_z a_zb a_zr a_zc a_zq a_ze a_za a_zd zz_pieceCount zz_ruleCount o_zz_columnCount zz_readersOf o_zz_columnOf o_zz_readersOfColumn) := by
  refine GM.of (by decide) (Nat.le_of_ble_eq_true rfl) (lv := [(0, .ref a_z)]) rfl ?_
  intro X hX C
  subst hX
  refine k_aload_n C d_Union_groupSymbols_0 rfl 0 rfl rfl ?_
  refine k_iconst C d_Union_groupSymbols_1 (v := (0 : Int32)) (by decide) rfl ?_
  refine k_putf (ws' := w_Union_groupSymbols (cI := cI) (cJ := cJ) (cC := cC) (cZ := cZ) (cR := cR) a_z a_zb a_zr a_zc a_zq a_ze a_za a_zd zz_pieceCount zz_ruleCount (0 : Int32) zz_readersOf zz_columnOf zz_readersOfColumn) C d_Union_groupSymbols_2 hin_Union hty_Union hnn_Union rfl 9 (by decide) mw121 rfl 0 rfl rfl rfl (Nat.le_of_ble_eq_true rfl) rfl rfl ?_
  refine k_iconst C d_Union_groupSymbols_5 (v := (0 : Int32)) (by decide) rfl ?_
  refine k_istore_n (lv' := [(1, .int (0 : Int32)), (0, .ref a_z)]) C d_Union_groupSymbols_6 rfl (by decide) rfl rfl ?_
  have X7_0 : ∀ (l1_7 : Int32) (zz_columnCount_7 : Int32) (zz_columnOf_7 : Nat → Int32) (zz_readersOfColumn_7 : Nat → Int64), some (zz_columnCount_7, zz_columnOf_7, zz_readersOfColumn_7) = some (o_zz_columnCount, o_zz_columnOf, o_zz_readersOfColumn) → Wk X { frames := 0, cells := 0, slots := 0, locals := 0 } 3 D (va_A (w_Union_groupSymbols (cI := cI) (cJ := cJ) (cC := cC) (cZ := cZ) (cR := cR) a_z a_zb a_zr a_zc a_zq a_ze a_za a_zd zz_pieceCount zz_ruleCount zz_columnCount zz_readersOf zz_columnOf zz_readersOfColumn) (xs X).heap.size) 0 0 (GE X D (w_Union_groupSymbols (cI := cI) (cJ := cJ) (cC := cC) (cZ := cZ) (cR := cR) a_z a_zb a_zr a_zc a_zq a_ze a_za a_zd zz_pieceCount zz_ruleCount zz_columnCount zz_readersOf zz_columnOf zz_readersOfColumn) (fun (o : Option Value) (w : va_W) => o = none ∧ w = w_Union_groupSymbols (cI := cI) (cJ := cJ) (cC := cC) (cZ := cZ) (cR := cR) a_z a_zb a_zr a_zc a_zq a_ze a_za a_zd zz_pieceCount zz_ruleCount o_zz_columnCount zz_readersOf o_zz_columnOf o_zz_readersOfColumn) 0 0) (w_Union_groupSymbols (cI := cI) (cJ := cJ) (cC := cC) (cZ := cZ) (cR := cR) a_z a_zb a_zr a_zc a_zq a_ze a_za a_zd zz_pieceCount zz_ruleCount zz_columnCount_7 zz_readersOf zz_columnOf_7 zz_readersOfColumn_7) [(1, .int l1_7), (0, .ref a_z)] [] 88 := by
    intro l1_7 zz_columnCount_7 zz_columnOf_7 zz_readersOfColumn_7 h
    exact k_vret C d_Union_groupSymbols_88 (tr1 h (fun t => (fun (o : Option Value) (w : va_W) => o = none ∧ w = w_Union_groupSymbols (cI := cI) (cJ := cJ) (cC := cC) (cZ := cZ) (cR := cR) a_z a_zb a_zr a_zc a_zq a_ze a_za a_zd zz_pieceCount zz_ruleCount (t.1) zz_readersOf (t.2.1) (t.2.2)) none (w_Union_groupSymbols (cI := cI) (cJ := cJ) (cC := cC) (cZ := cZ) (cR := cR) a_z a_zb a_zr a_zc a_zq a_ze a_za a_zd zz_pieceCount zz_ruleCount zz_columnCount_7 zz_readersOf zz_columnOf_7 zz_readersOfColumn_7)) ⟨rfl, rfl⟩)
  have L7 : ∀ (kk7_0 : Int32 → Int32 → (Nat → Int32) → (Nat → Int64) → Option (Int32 × (Nat → Int32) × (Nat → Int64))) (hX7_0 : ∀ (l1_7 : Int32) (zz_columnCount_7 : Int32) (zz_columnOf_7 : Nat → Int32) (zz_readersOfColumn_7 : Nat → Int64), kk7_0 l1_7 zz_columnCount_7 zz_columnOf_7 zz_readersOfColumn_7 = some (o_zz_columnCount, o_zz_columnOf, o_zz_readersOfColumn) → Wk X { frames := 0, cells := 0, slots := 0, locals := 0 } 3 D (va_A (w_Union_groupSymbols (cI := cI) (cJ := cJ) (cC := cC) (cZ := cZ) (cR := cR) a_z a_zb a_zr a_zc a_zq a_ze a_za a_zd zz_pieceCount zz_ruleCount zz_columnCount zz_readersOf zz_columnOf zz_readersOfColumn) (xs X).heap.size) 0 0 (GE X D (w_Union_groupSymbols (cI := cI) (cJ := cJ) (cC := cC) (cZ := cZ) (cR := cR) a_z a_zb a_zr a_zc a_zq a_ze a_za a_zd zz_pieceCount zz_ruleCount zz_columnCount zz_readersOf zz_columnOf zz_readersOfColumn) (fun (o : Option Value) (w : va_W) => o = none ∧ w = w_Union_groupSymbols (cI := cI) (cJ := cJ) (cC := cC) (cZ := cZ) (cR := cR) a_z a_zb a_zr a_zc a_zq a_ze a_za a_zd zz_pieceCount zz_ruleCount o_zz_columnCount zz_readersOf o_zz_columnOf o_zz_readersOfColumn) 0 0) (w_Union_groupSymbols (cI := cI) (cJ := cJ) (cC := cC) (cZ := cZ) (cR := cR) a_z a_zb a_zr a_zc a_zq a_ze a_za a_zd zz_pieceCount zz_ruleCount zz_columnCount_7 zz_readersOf zz_columnOf_7 zz_readersOfColumn_7) [(1, .int l1_7), (0, .ref a_z)] [] 88) (n_7 : Nat) (l1_7 : Int32) (zz_columnCount_7 : Int32) (zz_columnOf_7 : Nat → Int32) (zz_readersOfColumn_7 : Nat → Int64), f_Union_groupSymbols_L7 zz_readersOf fu kk7_0 n_7 l1_7 zz_columnCount_7 zz_columnOf_7 zz_readersOfColumn_7 = some (o_zz_columnCount, o_zz_columnOf, o_zz_readersOfColumn) → Wk X { frames := 0, cells := 0, slots := 0, locals := 0 } 3 D (va_A (w_Union_groupSymbols (cI := cI) (cJ := cJ) (cC := cC) (cZ := cZ) (cR := cR) a_z a_zb a_zr a_zc a_zq a_ze a_za a_zd zz_pieceCount zz_ruleCount zz_columnCount zz_readersOf zz_columnOf zz_readersOfColumn) (xs X).heap.size) 0 0 (GE X D (w_Union_groupSymbols (cI := cI) (cJ := cJ) (cC := cC) (cZ := cZ) (cR := cR) a_z a_zb a_zr a_zc a_zq a_ze a_za a_zd zz_pieceCount zz_ruleCount zz_columnCount zz_readersOf zz_columnOf zz_readersOfColumn) (fun (o : Option Value) (w : va_W) => o = none ∧ w = w_Union_groupSymbols (cI := cI) (cJ := cJ) (cC := cC) (cZ := cZ) (cR := cR) a_z a_zb a_zr a_zc a_zq a_ze a_za a_zd zz_pieceCount zz_ruleCount o_zz_columnCount zz_readersOf o_zz_columnOf o_zz_readersOfColumn) 0 0) (w_Union_groupSymbols (cI := cI) (cJ := cJ) (cC := cC) (cZ := cZ) (cR := cR) a_z a_zb a_zr a_zc a_zq a_ze a_za a_zd zz_pieceCount zz_ruleCount zz_columnCount_7 zz_readersOf zz_columnOf_7 zz_readersOfColumn_7) [(1, .int l1_7), (0, .ref a_z)] [] 7 := by
    intro kk7_0 hX7_0 n_7
    induction n_7 with
    | zero =>
      intro l1_7 zz_columnCount_7 zz_columnOf_7 zz_readersOfColumn_7 h
      exact nS h
    | succ n_7 ih7 =>
      intro l1_7 zz_columnCount_7 zz_columnOf_7 zz_readersOfColumn_7 h
      replace h := (f_Union_groupSymbols_L7_s _ _ _ _ _ _ _ _).symm.trans h
      have J45 : ∀ (l2_j45 : Int32) (l1_j45 : Int32) (zz_columnCount_j45 : Int32) (zz_columnOf_j45 : Nat → Int32) (zz_readersOfColumn_j45 : Nat → Int64), f_Union_groupSymbols_J45 zz_readersOf (fun l1_7 zz_columnCount_7 zz_columnOf_7 zz_readersOfColumn_7 => f_Union_groupSymbols_L7 zz_readersOf fu kk7_0 n_7 l1_7 zz_columnCount_7 zz_columnOf_7 zz_readersOfColumn_7) l2_j45 l1_j45 zz_columnCount_j45 zz_columnOf_j45 zz_readersOfColumn_j45 = some (o_zz_columnCount, o_zz_columnOf, o_zz_readersOfColumn) → Wk X { frames := 0, cells := 0, slots := 0, locals := 0 } 3 D (va_A (w_Union_groupSymbols (cI := cI) (cJ := cJ) (cC := cC) (cZ := cZ) (cR := cR) a_z a_zb a_zr a_zc a_zq a_ze a_za a_zd zz_pieceCount zz_ruleCount zz_columnCount zz_readersOf zz_columnOf zz_readersOfColumn) (xs X).heap.size) 0 0 (GE X D (w_Union_groupSymbols (cI := cI) (cJ := cJ) (cC := cC) (cZ := cZ) (cR := cR) a_z a_zb a_zr a_zc a_zq a_ze a_za a_zd zz_pieceCount zz_ruleCount zz_columnCount zz_readersOf zz_columnOf zz_readersOfColumn) (fun (o : Option Value) (w : va_W) => o = none ∧ w = w_Union_groupSymbols (cI := cI) (cJ := cJ) (cC := cC) (cZ := cZ) (cR := cR) a_z a_zb a_zr a_zc a_zq a_ze a_za a_zd zz_pieceCount zz_ruleCount o_zz_columnCount zz_readersOf o_zz_columnOf o_zz_readersOfColumn) 0 0) (w_Union_groupSymbols (cI := cI) (cJ := cJ) (cC := cC) (cZ := cZ) (cR := cR) a_z a_zb a_zr a_zc a_zq a_ze a_za a_zd zz_pieceCount zz_ruleCount zz_columnCount_j45 zz_readersOf zz_columnOf_j45 zz_readersOfColumn_j45) [(2, .int l2_j45), (1, .int l1_j45), (0, .ref a_z)] [] 45 := by
        intro l2_j45 l1_j45 zz_columnCount_j45 zz_columnOf_j45 zz_readersOfColumn_j45 h
        refine k_iload_n C d_Union_groupSymbols_45 rfl 0 rfl rfl ?_
        refine k_aload_n C d_Union_groupSymbols_46 rfl 2 rfl rfl ?_
        refine k_getf C d_Union_groupSymbols_47 hin_Union rfl 9 (by decide) mw121 0 rfl rfl rfl ?_
        refine k_icmp_ne (tgt := 75) C d_Union_groupSymbols_50 (by decide) rfl (fun c1 => ?_) (fun c1 => ?_)
        · replace h := gi_f h c1
          refine k_aload_n C d_Union_groupSymbols_75 rfl 2 rfl rfl ?_
          refine k_getf C d_Union_groupSymbols_76 hin_Union rfl 2 (by decide) mw122 0 rfl rfl rfl ?_
          refine k_iload_n C d_Union_groupSymbols_79 rfl 1 rfl rfl ?_
          refine k_iload_n C d_Union_groupSymbols_80 rfl 0 rfl rfl ?_
          have g2 := gd1 h
          replace h := gd2 h
          refine k_iast (ws' := w_Union_groupSymbols (cI := cI) (cJ := cJ) (cC := cC) (cZ := cZ) (cR := cR) a_z a_zb a_zr a_zc a_zq a_ze a_za a_zd zz_pieceCount zz_ruleCount zz_columnCount_j45 zz_readersOf (upd zz_columnOf_j45 l1_j45.toNatClampNeg l2_j45) zz_readersOfColumn_j45) C d_Union_groupSymbols_81 2 0 rfl rfl (inB_in g2) rfl rfl ?_
          refine k_iinc (lv' := [(1, .int (l1_j45 + 1)), (2, .int l2_j45), (0, .ref a_z)]) C d_Union_groupSymbols_82 1 rfl rfl (by decide) rfl rfl ?_
          refine k_goto (tgt := 7) C d_Union_groupSymbols_85 (by decide) ?_
          refine k_lpk [0, 2] rfl ?_
          exact ih7 (l1_j45 + 1) zz_columnCount_j45 (upd zz_columnOf_j45 l1_j45.toNatClampNeg l2_j45) zz_readersOfColumn_j45 h
        · replace h := gi_t h c1
          refine k_aload_n C d_Union_groupSymbols_53 rfl 2 rfl rfl ?_
          refine k_getf C d_Union_groupSymbols_54 hin_Union rfl 3 (by decide) mw123 0 rfl rfl rfl ?_
          refine k_iload_n C d_Union_groupSymbols_57 rfl 0 rfl rfl ?_
          refine k_aload_n C d_Union_groupSymbols_58 rfl 2 rfl rfl ?_
          refine k_getf C d_Union_groupSymbols_59 hin_Union rfl 1 (by decide) mw105 0 rfl rfl rfl ?_
          refine k_iload_n C d_Union_groupSymbols_62 rfl 1 rfl rfl ?_
          have g3 := gd1 h
          replace h := gd2 h
          refine k_lald C d_Union_groupSymbols_63 1 1 rfl rfl (inB_in g3) rfl ?_
          have g4 := gd1 h
          replace h := gd2 h
          refine k_last (ws' := w_Union_groupSymbols (cI := cI) (cJ := cJ) (cC := cC) (cZ := cZ) (cR := cR) a_z a_zb a_zr a_zc a_zq a_ze a_za a_zd zz_pieceCount zz_ruleCount zz_columnCount_j45 zz_readersOf zz_columnOf_j45 (vp_updL zz_readersOfColumn_j45 l2_j45.toNatClampNeg (zz_readersOf l1_j45.toNatClampNeg))) C d_Union_groupSymbols_64 3 1 rfl rfl (inB_in g4) rfl rfl ?_
          refine k_aload_n C d_Union_groupSymbols_65 rfl 2 rfl rfl ?_
          refine k_dup C d_Union_groupSymbols_66 rfl rfl ?_
          refine k_getf C d_Union_groupSymbols_67 hin_Union rfl 9 (by decide) mw121 0 rfl rfl rfl ?_
          refine k_iconst C d_Union_groupSymbols_70 (v := (1 : Int32)) (by decide) rfl ?_
          refine k_iadd C d_Union_groupSymbols_71 rfl ?_
          refine k_putf (ws' := w_Union_groupSymbols (cI := cI) (cJ := cJ) (cC := cC) (cZ := cZ) (cR := cR) a_z a_zb a_zr a_zc a_zq a_ze a_za a_zd zz_pieceCount zz_ruleCount (zz_columnCount_j45 + (1 : Int32)) zz_readersOf zz_columnOf_j45 (vp_updL zz_readersOfColumn_j45 l2_j45.toNatClampNeg (zz_readersOf l1_j45.toNatClampNeg))) C d_Union_groupSymbols_72 hin_Union hty_Union hnn_Union rfl 9 (by decide) mw121 rfl 0 rfl rfl rfl (Nat.le_of_ble_eq_true rfl) rfl rfl ?_
          refine k_aload_n C d_Union_groupSymbols_75 rfl 2 rfl rfl ?_
          refine k_getf C d_Union_groupSymbols_76 hin_Union rfl 2 (by decide) mw122 0 rfl rfl rfl ?_
          refine k_iload_n C d_Union_groupSymbols_79 rfl 1 rfl rfl ?_
          refine k_iload_n C d_Union_groupSymbols_80 rfl 0 rfl rfl ?_
          have g5 := gd1 h
          replace h := gd2 h
          refine k_iast (ws' := w_Union_groupSymbols (cI := cI) (cJ := cJ) (cC := cC) (cZ := cZ) (cR := cR) a_z a_zb a_zr a_zc a_zq a_ze a_za a_zd zz_pieceCount zz_ruleCount (zz_columnCount_j45 + (1 : Int32)) zz_readersOf (upd zz_columnOf_j45 l1_j45.toNatClampNeg l2_j45) (vp_updL zz_readersOfColumn_j45 l2_j45.toNatClampNeg (zz_readersOf l1_j45.toNatClampNeg))) C d_Union_groupSymbols_81 2 0 rfl rfl (inB_in g5) rfl rfl ?_
          refine k_iinc (lv' := [(1, .int (l1_j45 + 1)), (2, .int l2_j45), (0, .ref a_z)]) C d_Union_groupSymbols_82 1 rfl rfl (by decide) rfl rfl ?_
          refine k_goto (tgt := 7) C d_Union_groupSymbols_85 (by decide) ?_
          refine k_lpk [0, 2] rfl ?_
          exact ih7 (l1_j45 + 1) (zz_columnCount_j45 + (1 : Int32)) (upd zz_columnOf_j45 l1_j45.toNatClampNeg l2_j45) (vp_updL zz_readersOfColumn_j45 l2_j45.toNatClampNeg (zz_readersOf l1_j45.toNatClampNeg)) h
      refine k_iload_n C d_Union_groupSymbols_7 rfl 0 rfl rfl ?_
      refine k_bipush C d_Union_groupSymbols_8 (v := (95 : Int32)) (by decide) rfl ?_
      refine k_icmp_ge (tgt := 88) C d_Union_groupSymbols_10 (by decide) rfl (fun c6 => ?_) (fun c6 => ?_)
      · replace h := gi_t h c6
        exact hX7_0 l1_7 zz_columnCount_7 zz_columnOf_7 zz_readersOfColumn_7 h
      · replace h := gi_f h c6
        refine k_iconst C d_Union_groupSymbols_13 (v := (0 : Int32)) (by decide) rfl ?_
        refine k_istore_n (lv' := [(2, .int (0 : Int32)), (1, .int l1_7), (0, .ref a_z)]) C d_Union_groupSymbols_14 rfl (by decide) rfl rfl ?_
        have X15_0 : ∀ (l2_15 : Int32), (f_Union_groupSymbols_J45 zz_readersOf (fun l1_7 zz_columnCount_7 zz_columnOf_7 zz_readersOfColumn_7 => f_Union_groupSymbols_L7 zz_readersOf fu kk7_0 n_7 l1_7 zz_columnCount_7 zz_columnOf_7 zz_readersOfColumn_7) l2_15 l1_7 zz_columnCount_7 zz_columnOf_7 zz_readersOfColumn_7) = some (o_zz_columnCount, o_zz_columnOf, o_zz_readersOfColumn) → Wk X { frames := 0, cells := 0, slots := 0, locals := 0 } 3 D (va_A (w_Union_groupSymbols (cI := cI) (cJ := cJ) (cC := cC) (cZ := cZ) (cR := cR) a_z a_zb a_zr a_zc a_zq a_ze a_za a_zd zz_pieceCount zz_ruleCount zz_columnCount zz_readersOf zz_columnOf zz_readersOfColumn) (xs X).heap.size) 0 0 (GE X D (w_Union_groupSymbols (cI := cI) (cJ := cJ) (cC := cC) (cZ := cZ) (cR := cR) a_z a_zb a_zr a_zc a_zq a_ze a_za a_zd zz_pieceCount zz_ruleCount zz_columnCount zz_readersOf zz_columnOf zz_readersOfColumn) (fun (o : Option Value) (w : va_W) => o = none ∧ w = w_Union_groupSymbols (cI := cI) (cJ := cJ) (cC := cC) (cZ := cZ) (cR := cR) a_z a_zb a_zr a_zc a_zq a_ze a_za a_zd zz_pieceCount zz_ruleCount o_zz_columnCount zz_readersOf o_zz_columnOf o_zz_readersOfColumn) 0 0) (w_Union_groupSymbols (cI := cI) (cJ := cJ) (cC := cC) (cZ := cZ) (cR := cR) a_z a_zb a_zr a_zc a_zq a_ze a_za a_zd zz_pieceCount zz_ruleCount zz_columnCount_7 zz_readersOf zz_columnOf_7 zz_readersOfColumn_7) [(2, .int l2_15), (1, .int l1_7), (0, .ref a_z)] [] 45 := by
          intro l2_15 h
          exact J45 l2_15 l1_7 zz_columnCount_7 zz_columnOf_7 zz_readersOfColumn_7 h
        have L15 : ∀ (kk15_0 : Int32 → Option (Int32 × (Nat → Int32) × (Nat → Int64))) (hX15_0 : ∀ (l2_15 : Int32), kk15_0 l2_15 = some (o_zz_columnCount, o_zz_columnOf, o_zz_readersOfColumn) → Wk X { frames := 0, cells := 0, slots := 0, locals := 0 } 3 D (va_A (w_Union_groupSymbols (cI := cI) (cJ := cJ) (cC := cC) (cZ := cZ) (cR := cR) a_z a_zb a_zr a_zc a_zq a_ze a_za a_zd zz_pieceCount zz_ruleCount zz_columnCount zz_readersOf zz_columnOf zz_readersOfColumn) (xs X).heap.size) 0 0 (GE X D (w_Union_groupSymbols (cI := cI) (cJ := cJ) (cC := cC) (cZ := cZ) (cR := cR) a_z a_zb a_zr a_zc a_zq a_ze a_za a_zd zz_pieceCount zz_ruleCount zz_columnCount zz_readersOf zz_columnOf zz_readersOfColumn) (fun (o : Option Value) (w : va_W) => o = none ∧ w = w_Union_groupSymbols (cI := cI) (cJ := cJ) (cC := cC) (cZ := cZ) (cR := cR) a_z a_zb a_zr a_zc a_zq a_ze a_za a_zd zz_pieceCount zz_ruleCount o_zz_columnCount zz_readersOf o_zz_columnOf o_zz_readersOfColumn) 0 0) (w_Union_groupSymbols (cI := cI) (cJ := cJ) (cC := cC) (cZ := cZ) (cR := cR) a_z a_zb a_zr a_zc a_zq a_ze a_za a_zd zz_pieceCount zz_ruleCount zz_columnCount_7 zz_readersOf zz_columnOf_7 zz_readersOfColumn_7) [(2, .int l2_15), (1, .int l1_7), (0, .ref a_z)] [] 45) (n_15 : Nat) (l2_15 : Int32), f_Union_groupSymbols_L15 zz_readersOf l1_7 zz_columnCount_7 zz_readersOfColumn_7 kk15_0 n_15 l2_15 = some (o_zz_columnCount, o_zz_columnOf, o_zz_readersOfColumn) → Wk X { frames := 0, cells := 0, slots := 0, locals := 0 } 3 D (va_A (w_Union_groupSymbols (cI := cI) (cJ := cJ) (cC := cC) (cZ := cZ) (cR := cR) a_z a_zb a_zr a_zc a_zq a_ze a_za a_zd zz_pieceCount zz_ruleCount zz_columnCount zz_readersOf zz_columnOf zz_readersOfColumn) (xs X).heap.size) 0 0 (GE X D (w_Union_groupSymbols (cI := cI) (cJ := cJ) (cC := cC) (cZ := cZ) (cR := cR) a_z a_zb a_zr a_zc a_zq a_ze a_za a_zd zz_pieceCount zz_ruleCount zz_columnCount zz_readersOf zz_columnOf zz_readersOfColumn) (fun (o : Option Value) (w : va_W) => o = none ∧ w = w_Union_groupSymbols (cI := cI) (cJ := cJ) (cC := cC) (cZ := cZ) (cR := cR) a_z a_zb a_zr a_zc a_zq a_ze a_za a_zd zz_pieceCount zz_ruleCount o_zz_columnCount zz_readersOf o_zz_columnOf o_zz_readersOfColumn) 0 0) (w_Union_groupSymbols (cI := cI) (cJ := cJ) (cC := cC) (cZ := cZ) (cR := cR) a_z a_zb a_zr a_zc a_zq a_ze a_za a_zd zz_pieceCount zz_ruleCount zz_columnCount_7 zz_readersOf zz_columnOf_7 zz_readersOfColumn_7) [(2, .int l2_15), (1, .int l1_7), (0, .ref a_z)] [] 15 := by
          intro kk15_0 hX15_0 n_15
          induction n_15 with
          | zero =>
            intro l2_15 h
            exact nS h
          | succ n_15 ih15 =>
            intro l2_15 h
            replace h := (f_Union_groupSymbols_L15_s _ _ _ _ _ _ _).symm.trans h
            refine k_iload_n C d_Union_groupSymbols_15 rfl 0 rfl rfl ?_
            refine k_aload_n C d_Union_groupSymbols_16 rfl 2 rfl rfl ?_
            refine k_getf C d_Union_groupSymbols_17 hin_Union rfl 9 (by decide) mw121 0 rfl rfl rfl ?_
            refine k_icmp_ge (tgt := 45) C d_Union_groupSymbols_20 (by decide) rfl (fun c7 => ?_) (fun c7 => ?_)
            · replace h := gi_t h c7
              exact hX15_0 l2_15 h
            · replace h := gi_f h c7
              refine k_aload_n C d_Union_groupSymbols_23 rfl 2 rfl rfl ?_
              refine k_getf C d_Union_groupSymbols_24 hin_Union rfl 3 (by decide) mw123 0 rfl rfl rfl ?_
              refine k_iload_n C d_Union_groupSymbols_27 rfl 0 rfl rfl ?_
              have g8 := gd1 h
              replace h := gd2 h
              refine k_lald C d_Union_groupSymbols_28 3 1 rfl rfl (inB_in g8) rfl ?_
              refine k_aload_n C d_Union_groupSymbols_29 rfl 2 rfl rfl ?_
              refine k_getf C d_Union_groupSymbols_30 hin_Union rfl 1 (by decide) mw105 0 rfl rfl rfl ?_
              refine k_iload_n C d_Union_groupSymbols_33 rfl 1 rfl rfl ?_
              have g9 := gd1 h
              replace h := gd2 h
              refine k_lald C d_Union_groupSymbols_34 1 1 rfl rfl (inB_in g9) rfl ?_
              refine k_lcmp C d_Union_groupSymbols_35 rfl ?_
              refine k_if_eq (tgt := 45) C d_Union_groupSymbols_36 (by decide) rfl (fun c10 => ?_) (fun c10 => ?_)
              · replace h := gi_t h c10
                exact hX15_0 l2_15 h
              · replace h := gi_f h c10
                refine k_iinc (lv' := [(2, .int (l2_15 + 1)), (1, .int l1_7), (0, .ref a_z)]) C d_Union_groupSymbols_39 0 rfl rfl (by decide) rfl rfl ?_
                refine k_goto (tgt := 15) C d_Union_groupSymbols_42 (by decide) ?_
                exact ih15 (l2_15 + 1) h
        exact L15 (fun l2_15 => (f_Union_groupSymbols_J45 zz_readersOf (fun l1_7 zz_columnCount_7 zz_columnOf_7 zz_readersOfColumn_7 => f_Union_groupSymbols_L7 zz_readersOf fu kk7_0 n_7 l1_7 zz_columnCount_7 zz_columnOf_7 zz_readersOfColumn_7) l2_15 l1_7 zz_columnCount_7 zz_columnOf_7 zz_readersOfColumn_7)) X15_0 fu (0 : Int32) h
  exact L7 (fun l1_7 zz_columnCount_7 zz_columnOf_7 zz_readersOfColumn_7 => some (zz_columnCount_7, zz_columnOf_7, zz_readersOfColumn_7)) X7_0 fu (0 : Int32) (0 : Int32) zz_columnOf zz_readersOfColumn h
theorem d_Union_columnOfByte_0 : decode b_Union_columnOfByte 0 = .ok (.aload_n 0, 1) := by decide +kernel
theorem d_Union_columnOfByte_1 : decode b_Union_columnOfByte 1 = .ok (.getfield 18, 3) := by decide +kernel
theorem d_Union_columnOfByte_4 : decode b_Union_columnOfByte 4 = .ok (.iload_n 1, 1) := by decide +kernel
theorem d_Union_columnOfByte_5 : decode b_Union_columnOfByte 5 = .ok (.invokestatic 78, 3) := by decide +kernel
theorem d_Union_columnOfByte_8 : decode b_Union_columnOfByte 8 = .ok (.iaload, 1) := by decide +kernel
theorem d_Union_columnOfByte_9 : decode b_Union_columnOfByte 9 = .ok (.ireturn, 1) := by decide +kernel
abbrev w_Union_columnOfByte {cI cJ cC cZ cR : ClassId} (a_z a_zb a_zr a_zc a_zq a_ze a_za a_zd : Nat) (zz_pieceCount : Int32) (zz_ruleCount : Int32) (zz_columnCount : Int32) (zz_columnOf : Nat → Int32) : va_W := [(a_z, .inr (4, [.ref a_zb, .ref a_zr, .ref a_zc, .ref a_zq, .ref a_ze, .ref a_za, .ref a_zd, .int zz_pieceCount, .int zz_ruleCount, .int zz_columnCount])), (a_zc, .inl (cI, 95, .inl zz_columnOf))]
def f_Union_columnOfByte (p1 : Int32) (zz_columnOf : Nat → Int32) : Option (Int32) := (Option.bind (f_G_symbolOf p1) fun r1 => (if inB r1 95 = true then some (zz_columnOf r1.toNatClampNeg) else none))
set_option maxRecDepth 100000 in
set_option maxHeartbeats 4000000 in
theorem c_Union_columnOfByte {l : Launch} {D : va_G} {cI cJ cC cZ cR : ClassId} (fu : Nat) (a_z a_zb a_zr a_zc a_zq a_ze a_za a_zd : Nat)   (zz_pieceCount : Int32) (zz_ruleCount : Int32) (zz_columnCount : Int32) (zz_columnOf : Nat → Int32) (p1 : Int32) (o_r : Int32) (h : f_Union_columnOfByte p1 zz_columnOf = some o_r) : GM l D (tysL cI cJ cC cZ cR) y_Union_columnOfByte b_Union_columnOfByte 2 (some (.int)) { frames := 1, cells := 0, slots := 0, locals := 20 } [.ref a_z, .int p1] (w_Union_columnOfByte (cI := cI) (cJ := cJ) (cC := cC) (cZ := cZ) (cR := cR) a_z a_zb a_zr a_zc a_zq a_ze a_za a_zd zz_pieceCount zz_ruleCount zz_columnCount zz_columnOf) (fun (o : Option Value) (w : va_W) => o = some (.int o_r) ∧ w = w_Union_columnOfByte (cI := cI) (cJ := cJ) (cC := cC) (cZ := cZ) (cR := cR) a_z a_zb a_zr a_zc a_zq a_ze a_za a_zd zz_pieceCount zz_ruleCount zz_columnCount zz_columnOf) := by
  refine GM.of (by decide) (Nat.le_of_ble_eq_true rfl) (lv := [(0, .ref a_z), (1, .int p1)]) rfl ?_
  intro X hX C
  subst hX
  refine k_aload_n C d_Union_columnOfByte_0 rfl 0 rfl rfl ?_
  refine k_getf C d_Union_columnOfByte_1 hin_Union rfl 2 (by decide) mw122 0 rfl rfl rfl ?_
  refine k_iload_n C d_Union_columnOfByte_4 rfl 1 rfl rfl ?_
  obtain ⟨r1, hc2, h⟩ := bd h
  refine k_callSNd (As := [.int p1]) (st := [.ref a_zc]) (st' := [.int r1, .ref a_zc]) (wn := w_Union_columnOfByte (cI := cI) (cJ := cJ) (cC := cC) (cZ := cZ) (cR := cR) a_z a_zb a_zr a_zc a_zq a_ze a_za a_zd zz_pieceCount zz_ruleCount zz_columnCount zz_columnOf) C d_Union_columnOfByte_5 (c_G_symbolOf fu p1 r1 hc2) co_G_symbolOf cos_G_symbolOf mw124 (by decide) (by decide) (Nat.le_of_ble_eq_true rfl) rfl [] [0, 1] [0, 1] rfl (by decide +kernel) rfl (by decide +kernel) (by decide +kernel) rfl (by decide +kernel) rfl rfl ?_
  have g3 := gd1 h
  replace h := gd2 h
  refine k_iald C d_Union_columnOfByte_8 1 0 rfl rfl (inB_in g3) rfl ?_
  exact k_iret C d_Union_columnOfByte_9 (tr1 h (fun t => (fun (o : Option Value) (w : va_W) => o = some (.int (t)) ∧ w = w_Union_columnOfByte (cI := cI) (cJ := cJ) (cC := cC) (cZ := cZ) (cR := cR) a_z a_zb a_zr a_zc a_zq a_ze a_za a_zd zz_pieceCount zz_ruleCount zz_columnCount zz_columnOf) (some (Value.int (zz_columnOf r1.toNatClampNeg))) (w_Union_columnOfByte (cI := cI) (cJ := cJ) (cC := cC) (cZ := cZ) (cR := cR) a_z a_zb a_zr a_zc a_zq a_ze a_za a_zd zz_pieceCount zz_ruleCount zz_columnCount zz_columnOf)) ⟨rfl, rfl⟩)
theorem d_Union_behindAll_0 : decode b_Union_behindAll 0 = .ok (.lconst 0, 1) := by decide +kernel
theorem d_Union_behindAll_1 : decode b_Union_behindAll 1 = .ok (.lstore_n 3, 1) := by decide +kernel
theorem d_Union_behindAll_2 : decode b_Union_behindAll 2 = .ok (.iconst 0, 1) := by decide +kernel
theorem d_Union_behindAll_3 : decode b_Union_behindAll 3 = .ok (.istore 5, 2) := by decide +kernel
theorem d_Union_behindAll_5 : decode b_Union_behindAll 5 = .ok (.iload 5, 2) := by decide +kernel
theorem d_Union_behindAll_7 : decode b_Union_behindAll 7 = .ok (.bipush 60, 2) := by decide +kernel
theorem d_Union_behindAll_9 : decode b_Union_behindAll 9 = .ok (.if_icmp .gt 30, 3) := by decide +kernel
theorem d_Union_behindAll_12 : decode b_Union_behindAll 12 = .ok (.lload_n 1, 1) := by decide +kernel
theorem d_Union_behindAll_13 : decode b_Union_behindAll 13 = .ok (.iload 5, 2) := by decide +kernel
theorem d_Union_behindAll_15 : decode b_Union_behindAll 15 = .ok (.lushr, 1) := by decide +kernel
theorem d_Union_behindAll_16 : decode b_Union_behindAll 16 = .ok (.lconst 1, 1) := by decide +kernel
theorem d_Union_behindAll_17 : decode b_Union_behindAll 17 = .ok (.land, 1) := by decide +kernel
theorem d_Union_behindAll_18 : decode b_Union_behindAll 18 = .ok (.lconst 0, 1) := by decide +kernel
theorem d_Union_behindAll_19 : decode b_Union_behindAll 19 = .ok (.lcmp, 1) := by decide +kernel
theorem d_Union_behindAll_20 : decode b_Union_behindAll 20 = .ok (.ifCond .eq 13, 3) := by decide +kernel
theorem d_Union_behindAll_23 : decode b_Union_behindAll 23 = .ok (.lload_n 3, 1) := by decide +kernel
theorem d_Union_behindAll_24 : decode b_Union_behindAll 24 = .ok (.aload_n 0, 1) := by decide +kernel
theorem d_Union_behindAll_25 : decode b_Union_behindAll 25 = .ok (.getfield 9, 3) := by decide +kernel
theorem d_Union_behindAll_28 : decode b_Union_behindAll 28 = .ok (.iload 5, 2) := by decide +kernel
theorem d_Union_behindAll_30 : decode b_Union_behindAll 30 = .ok (.laload, 1) := by decide +kernel
theorem d_Union_behindAll_31 : decode b_Union_behindAll 31 = .ok (.lor, 1) := by decide +kernel
theorem d_Union_behindAll_32 : decode b_Union_behindAll 32 = .ok (.lstore_n 3, 1) := by decide +kernel
theorem d_Union_behindAll_33 : decode b_Union_behindAll 33 = .ok (.iinc 5 1, 3) := by decide +kernel
theorem d_Union_behindAll_36 : decode b_Union_behindAll 36 = .ok (.goto (-31), 3) := by decide +kernel
theorem d_Union_behindAll_39 : decode b_Union_behindAll 39 = .ok (.lload_n 3, 1) := by decide +kernel
theorem d_Union_behindAll_40 : decode b_Union_behindAll 40 = .ok (.lreturn, 1) := by decide +kernel
abbrev w_Union_behindAll {cI cJ cC cZ cR : ClassId} (a_z a_zb a_zr a_zc a_zq a_ze a_za a_zd : Nat) (zz_pieceCount : Int32) (zz_ruleCount : Int32) (zz_columnCount : Int32) (zz_behind : Nat → Int64) : va_W := [(a_z, .inr (4, [.ref a_zb, .ref a_zr, .ref a_zc, .ref a_zq, .ref a_ze, .ref a_za, .ref a_zd, .int zz_pieceCount, .int zz_ruleCount, .int zz_columnCount])), (a_zb, .inl (cJ, 61, .inr (.inl zz_behind)))]
def f_Union_behindAll_L5 (zz_behind : Nat → Int64) (p1 : Int64) (kk5_0 : Int32 → Int64 → Option (Int64)) : Nat → Int32 → Int64 → Option (Int64)
  | 0, _, _ => none
  | n_5 + 1, l5_5, l3_5 => (if (60 : Int32) < l5_5 then (kk5_0 l5_5 l3_5) else (if (lg_cmp ((jlushr p1 l5_5) &&& (1 : Int64)) (0 : Int64)) = 0 then (f_Union_behindAll_L5 zz_behind p1 kk5_0 n_5 (l5_5 + 1) l3_5) else (if inB l5_5 61 = true then (f_Union_behindAll_L5 zz_behind p1 kk5_0 n_5 (l5_5 + 1) (l3_5 ||| (zz_behind l5_5.toNatClampNeg))) else none)))
theorem f_Union_behindAll_L5_s (zz_behind : Nat → Int64) (p1 : Int64) (kk5_0 : Int32 → Int64 → Option (Int64)) (n_5 : Nat) (l5_5 : Int32) (l3_5 : Int64) : f_Union_behindAll_L5 zz_behind p1 kk5_0 (n_5 + 1) l5_5 l3_5 = (if (60 : Int32) < l5_5 then (kk5_0 l5_5 l3_5) else (if (lg_cmp ((jlushr p1 l5_5) &&& (1 : Int64)) (0 : Int64)) = 0 then (f_Union_behindAll_L5 zz_behind p1 kk5_0 n_5 (l5_5 + 1) l3_5) else (if inB l5_5 61 = true then (f_Union_behindAll_L5 zz_behind p1 kk5_0 n_5 (l5_5 + 1) (l3_5 ||| (zz_behind l5_5.toNatClampNeg))) else none))) := rfl
def f_Union_behindAll (fu : Nat) (p1 : Int64) (zz_behind : Nat → Int64) : Option (Int64) := (f_Union_behindAll_L5 zz_behind p1 (fun l5_5 l3_5 => some l3_5) fu (0 : Int32) (0 : Int64))
set_option maxRecDepth 100000 in
set_option maxHeartbeats 4000000 in
theorem c_Union_behindAll {l : Launch} {D : va_G} {cI cJ cC cZ cR : ClassId} (fu : Nat) (a_z a_zb a_zr a_zc a_zq a_ze a_za a_zd : Nat)   (zz_pieceCount : Int32) (zz_ruleCount : Int32) (zz_columnCount : Int32) (zz_behind : Nat → Int64) (p1 : Int64) (o_r : Int64) (h : f_Union_behindAll fu p1 zz_behind = some o_r) : GM l D (tysL cI cJ cC cZ cR) y_Union_behindAll b_Union_behindAll 6 (some (.long)) { frames := 0, cells := 0, slots := 0, locals := 0 } [.ref a_z, .long p1] (w_Union_behindAll (cI := cI) (cJ := cJ) (cC := cC) (cZ := cZ) (cR := cR) a_z a_zb a_zr a_zc a_zq a_ze a_za a_zd zz_pieceCount zz_ruleCount zz_columnCount zz_behind) (fun (o : Option Value) (w : va_W) => o = some (.long o_r) ∧ w = w_Union_behindAll (cI := cI) (cJ := cJ) (cC := cC) (cZ := cZ) (cR := cR) a_z a_zb a_zr a_zc a_zq a_ze a_za a_zd zz_pieceCount zz_ruleCount zz_columnCount zz_behind) := by
  refine GM.of (by decide) (Nat.le_of_ble_eq_true rfl) (lv := [(0, .ref a_z), (1, .long p1)]) rfl ?_
  intro X hX C
  subst hX
  refine k_lconst C d_Union_behindAll_0 (v := (0 : Int64)) (by decide) rfl ?_
  refine k_lstore_n (lv' := [(3, .long (0 : Int64)), (0, .ref a_z), (1, .long p1)]) C d_Union_behindAll_1 rfl (by decide) rfl rfl ?_
  refine k_iconst C d_Union_behindAll_2 (v := (0 : Int32)) (by decide) rfl ?_
  refine k_istore (lv' := [(5, .int (0 : Int32)), (3, .long (0 : Int64)), (0, .ref a_z), (1, .long p1)]) C d_Union_behindAll_3 (by decide) rfl rfl ?_
  have X5_0 : ∀ (l5_5 : Int32) (l3_5 : Int64), some l3_5 = some o_r → Wk X { frames := 0, cells := 0, slots := 0, locals := 0 } 6 D (va_A (w_Union_behindAll (cI := cI) (cJ := cJ) (cC := cC) (cZ := cZ) (cR := cR) a_z a_zb a_zr a_zc a_zq a_ze a_za a_zd zz_pieceCount zz_ruleCount zz_columnCount zz_behind) (xs X).heap.size) 0 0 (GE X D (w_Union_behindAll (cI := cI) (cJ := cJ) (cC := cC) (cZ := cZ) (cR := cR) a_z a_zb a_zr a_zc a_zq a_ze a_za a_zd zz_pieceCount zz_ruleCount zz_columnCount zz_behind) (fun (o : Option Value) (w : va_W) => o = some (.long o_r) ∧ w = w_Union_behindAll (cI := cI) (cJ := cJ) (cC := cC) (cZ := cZ) (cR := cR) a_z a_zb a_zr a_zc a_zq a_ze a_za a_zd zz_pieceCount zz_ruleCount zz_columnCount zz_behind) 0 0) (w_Union_behindAll (cI := cI) (cJ := cJ) (cC := cC) (cZ := cZ) (cR := cR) a_z a_zb a_zr a_zc a_zq a_ze a_za a_zd zz_pieceCount zz_ruleCount zz_columnCount zz_behind) [(5, .int l5_5), (3, .long l3_5), (0, .ref a_z), (1, .long p1)] [] 39 := by
    intro l5_5 l3_5 h
    refine k_lload_n C d_Union_behindAll_39 rfl 1 rfl rfl ?_
    exact k_lret C d_Union_behindAll_40 (tr1 h (fun t => (fun (o : Option Value) (w : va_W) => o = some (.long (t)) ∧ w = w_Union_behindAll (cI := cI) (cJ := cJ) (cC := cC) (cZ := cZ) (cR := cR) a_z a_zb a_zr a_zc a_zq a_ze a_za a_zd zz_pieceCount zz_ruleCount zz_columnCount zz_behind) (some (Value.long l3_5)) (w_Union_behindAll (cI := cI) (cJ := cJ) (cC := cC) (cZ := cZ) (cR := cR) a_z a_zb a_zr a_zc a_zq a_ze a_za a_zd zz_pieceCount zz_ruleCount zz_columnCount zz_behind)) ⟨rfl, rfl⟩)
  have L5 : ∀ (kk5_0 : Int32 → Int64 → Option (Int64)) (hX5_0 : ∀ (l5_5 : Int32) (l3_5 : Int64), kk5_0 l5_5 l3_5 = some o_r → Wk X { frames := 0, cells := 0, slots := 0, locals := 0 } 6 D (va_A (w_Union_behindAll (cI := cI) (cJ := cJ) (cC := cC) (cZ := cZ) (cR := cR) a_z a_zb a_zr a_zc a_zq a_ze a_za a_zd zz_pieceCount zz_ruleCount zz_columnCount zz_behind) (xs X).heap.size) 0 0 (GE X D (w_Union_behindAll (cI := cI) (cJ := cJ) (cC := cC) (cZ := cZ) (cR := cR) a_z a_zb a_zr a_zc a_zq a_ze a_za a_zd zz_pieceCount zz_ruleCount zz_columnCount zz_behind) (fun (o : Option Value) (w : va_W) => o = some (.long o_r) ∧ w = w_Union_behindAll (cI := cI) (cJ := cJ) (cC := cC) (cZ := cZ) (cR := cR) a_z a_zb a_zr a_zc a_zq a_ze a_za a_zd zz_pieceCount zz_ruleCount zz_columnCount zz_behind) 0 0) (w_Union_behindAll (cI := cI) (cJ := cJ) (cC := cC) (cZ := cZ) (cR := cR) a_z a_zb a_zr a_zc a_zq a_ze a_za a_zd zz_pieceCount zz_ruleCount zz_columnCount zz_behind) [(5, .int l5_5), (3, .long l3_5), (0, .ref a_z), (1, .long p1)] [] 39) (n_5 : Nat) (l5_5 : Int32) (l3_5 : Int64), f_Union_behindAll_L5 zz_behind p1 kk5_0 n_5 l5_5 l3_5 = some o_r → Wk X { frames := 0, cells := 0, slots := 0, locals := 0 } 6 D (va_A (w_Union_behindAll (cI := cI) (cJ := cJ) (cC := cC) (cZ := cZ) (cR := cR) a_z a_zb a_zr a_zc a_zq a_ze a_za a_zd zz_pieceCount zz_ruleCount zz_columnCount zz_behind) (xs X).heap.size) 0 0 (GE X D (w_Union_behindAll (cI := cI) (cJ := cJ) (cC := cC) (cZ := cZ) (cR := cR) a_z a_zb a_zr a_zc a_zq a_ze a_za a_zd zz_pieceCount zz_ruleCount zz_columnCount zz_behind) (fun (o : Option Value) (w : va_W) => o = some (.long o_r) ∧ w = w_Union_behindAll (cI := cI) (cJ := cJ) (cC := cC) (cZ := cZ) (cR := cR) a_z a_zb a_zr a_zc a_zq a_ze a_za a_zd zz_pieceCount zz_ruleCount zz_columnCount zz_behind) 0 0) (w_Union_behindAll (cI := cI) (cJ := cJ) (cC := cC) (cZ := cZ) (cR := cR) a_z a_zb a_zr a_zc a_zq a_ze a_za a_zd zz_pieceCount zz_ruleCount zz_columnCount zz_behind) [(5, .int l5_5), (3, .long l3_5), (0, .ref a_z), (1, .long p1)] [] 5 := by
    intro kk5_0 hX5_0 n_5
    induction n_5 with
    | zero =>
      intro l5_5 l3_5 h
      exact nS h
    | succ n_5 ih5 =>
      intro l5_5 l3_5 h
      replace h := (f_Union_behindAll_L5_s _ _ _ _ _ _).symm.trans h
      refine k_iload C d_Union_behindAll_5 0 rfl rfl ?_
      refine k_bipush C d_Union_behindAll_7 (v := (60 : Int32)) (by decide) rfl ?_
      refine k_icmp_gt (tgt := 39) C d_Union_behindAll_9 (by decide) rfl (fun c1 => ?_) (fun c1 => ?_)
      · replace h := gi_t h c1
        exact hX5_0 l5_5 l3_5 h
      · replace h := gi_f h c1
        refine k_lload_n C d_Union_behindAll_12 rfl 3 rfl rfl ?_
        refine k_iload C d_Union_behindAll_13 0 rfl rfl ?_
        refine k_lushr C d_Union_behindAll_15 rfl ?_
        refine k_lconst C d_Union_behindAll_16 (v := (1 : Int64)) (by decide) rfl ?_
        refine k_land C d_Union_behindAll_17 rfl ?_
        refine k_lconst C d_Union_behindAll_18 (v := (0 : Int64)) (by decide) rfl ?_
        refine k_lcmp C d_Union_behindAll_19 rfl ?_
        refine k_if_eq (tgt := 33) C d_Union_behindAll_20 (by decide) rfl (fun c2 => ?_) (fun c2 => ?_)
        · replace h := gi_t h c2
          refine k_iinc (lv' := [(5, .int (l5_5 + 1)), (3, .long l3_5), (0, .ref a_z), (1, .long p1)]) C d_Union_behindAll_33 0 rfl rfl (by decide) rfl rfl ?_
          refine k_goto (tgt := 5) C d_Union_behindAll_36 (by decide) ?_
          exact ih5 (l5_5 + 1) l3_5 h
        · replace h := gi_f h c2
          refine k_lload_n C d_Union_behindAll_23 rfl 1 rfl rfl ?_
          refine k_aload_n C d_Union_behindAll_24 rfl 2 rfl rfl ?_
          refine k_getf C d_Union_behindAll_25 hin_Union rfl 0 (by decide) mw104 0 rfl rfl rfl ?_
          refine k_iload C d_Union_behindAll_28 0 rfl rfl ?_
          have g3 := gd1 h
          replace h := gd2 h
          refine k_lald C d_Union_behindAll_30 1 1 rfl rfl (inB_in g3) rfl ?_
          refine k_lor C d_Union_behindAll_31 rfl ?_
          refine k_lstore_n (lv' := [(3, .long (l3_5 ||| (zz_behind l5_5.toNatClampNeg))), (5, .int l5_5), (0, .ref a_z), (1, .long p1)]) C d_Union_behindAll_32 rfl (by decide) rfl rfl ?_
          refine k_iinc (lv' := [(5, .int (l5_5 + 1)), (3, .long (l3_5 ||| (zz_behind l5_5.toNatClampNeg))), (0, .ref a_z), (1, .long p1)]) C d_Union_behindAll_33 1 rfl rfl (by decide) rfl rfl ?_
          refine k_goto (tgt := 5) C d_Union_behindAll_36 (by decide) ?_
          exact ih5 (l5_5 + 1) (l3_5 ||| (zz_behind l5_5.toNatClampNeg)) h
  exact L5 (fun l5_5 l3_5 => some l3_5) X5_0 fu (0 : Int32) (0 : Int64) h
theorem d_Union_readersOfColumn_0 : decode b_Union_readersOfColumn 0 = .ok (.iload_n 1, 1) := by decide +kernel
theorem d_Union_readersOfColumn_1 : decode b_Union_readersOfColumn 1 = .ok (.ifCond .lt 20, 3) := by decide +kernel
theorem d_Union_readersOfColumn_4 : decode b_Union_readersOfColumn 4 = .ok (.iload_n 1, 1) := by decide +kernel
theorem d_Union_readersOfColumn_5 : decode b_Union_readersOfColumn 5 = .ok (.aload_n 0, 1) := by decide +kernel
theorem d_Union_readersOfColumn_6 : decode b_Union_readersOfColumn 6 = .ok (.getfield 75, 3) := by decide +kernel
theorem d_Union_readersOfColumn_9 : decode b_Union_readersOfColumn 9 = .ok (.if_icmp .ge 12, 3) := by decide +kernel
theorem d_Union_readersOfColumn_12 : decode b_Union_readersOfColumn 12 = .ok (.aload_n 0, 1) := by decide +kernel
theorem d_Union_readersOfColumn_13 : decode b_Union_readersOfColumn 13 = .ok (.getfield 22, 3) := by decide +kernel
theorem d_Union_readersOfColumn_16 : decode b_Union_readersOfColumn 16 = .ok (.iload_n 1, 1) := by decide +kernel
theorem d_Union_readersOfColumn_17 : decode b_Union_readersOfColumn 17 = .ok (.laload, 1) := by decide +kernel
theorem d_Union_readersOfColumn_18 : decode b_Union_readersOfColumn 18 = .ok (.goto 4, 3) := by decide +kernel
theorem d_Union_readersOfColumn_21 : decode b_Union_readersOfColumn 21 = .ok (.lconst 0, 1) := by decide +kernel
theorem d_Union_readersOfColumn_22 : decode b_Union_readersOfColumn 22 = .ok (.lreturn, 1) := by decide +kernel
abbrev w_Union_readersOfColumn {cI cJ cC cZ cR : ClassId} (a_z a_zb a_zr a_zc a_zq a_ze a_za a_zd : Nat) (zz_pieceCount : Int32) (zz_ruleCount : Int32) (zz_columnCount : Int32) (zz_readersOfColumn : Nat → Int64) : va_W := [(a_z, .inr (4, [.ref a_zb, .ref a_zr, .ref a_zc, .ref a_zq, .ref a_ze, .ref a_za, .ref a_zd, .int zz_pieceCount, .int zz_ruleCount, .int zz_columnCount])), (a_zq, .inl (cJ, 95, .inr (.inl zz_readersOfColumn)))]
def f_Union_readersOfColumn (p1 : Int32) (zz_columnCount : Int32) (zz_readersOfColumn : Nat → Int64) : Option (Int64) := (if p1 < 0 then some (0 : Int64) else (if zz_columnCount ≤ p1 then some (0 : Int64) else (if inB p1 95 = true then some (zz_readersOfColumn p1.toNatClampNeg) else none)))
set_option maxRecDepth 100000 in
set_option maxHeartbeats 4000000 in
theorem c_Union_readersOfColumn {l : Launch} {D : va_G} {cI cJ cC cZ cR : ClassId} (fu : Nat) (a_z a_zb a_zr a_zc a_zq a_ze a_za a_zd : Nat)   (zz_pieceCount : Int32) (zz_ruleCount : Int32) (zz_columnCount : Int32) (zz_readersOfColumn : Nat → Int64) (p1 : Int32) (o_r : Int64) (h : f_Union_readersOfColumn p1 zz_columnCount zz_readersOfColumn = some o_r) : GM l D (tysL cI cJ cC cZ cR) y_Union_readersOfColumn b_Union_readersOfColumn 2 (some (.long)) { frames := 0, cells := 0, slots := 0, locals := 0 } [.ref a_z, .int p1] (w_Union_readersOfColumn (cI := cI) (cJ := cJ) (cC := cC) (cZ := cZ) (cR := cR) a_z a_zb a_zr a_zc a_zq a_ze a_za a_zd zz_pieceCount zz_ruleCount zz_columnCount zz_readersOfColumn) (fun (o : Option Value) (w : va_W) => o = some (.long o_r) ∧ w = w_Union_readersOfColumn (cI := cI) (cJ := cJ) (cC := cC) (cZ := cZ) (cR := cR) a_z a_zb a_zr a_zc a_zq a_ze a_za a_zd zz_pieceCount zz_ruleCount zz_columnCount zz_readersOfColumn) := by
  refine GM.of (by decide) (Nat.le_of_ble_eq_true rfl) (lv := [(0, .ref a_z), (1, .int p1)]) rfl ?_
  intro X hX C
  subst hX
  refine k_iload_n C d_Union_readersOfColumn_0 rfl 1 rfl rfl ?_
  refine k_if_lt (tgt := 21) C d_Union_readersOfColumn_1 (by decide) rfl (fun c1 => ?_) (fun c1 => ?_)
  · replace h := gi_t h c1
    refine k_lconst C d_Union_readersOfColumn_21 (v := (0 : Int64)) (by decide) rfl ?_
    exact k_lret C d_Union_readersOfColumn_22 (tr1 h (fun t => (fun (o : Option Value) (w : va_W) => o = some (.long (t)) ∧ w = w_Union_readersOfColumn (cI := cI) (cJ := cJ) (cC := cC) (cZ := cZ) (cR := cR) a_z a_zb a_zr a_zc a_zq a_ze a_za a_zd zz_pieceCount zz_ruleCount zz_columnCount zz_readersOfColumn) (some (Value.long (0 : Int64))) (w_Union_readersOfColumn (cI := cI) (cJ := cJ) (cC := cC) (cZ := cZ) (cR := cR) a_z a_zb a_zr a_zc a_zq a_ze a_za a_zd zz_pieceCount zz_ruleCount zz_columnCount zz_readersOfColumn)) ⟨rfl, rfl⟩)
  · replace h := gi_f h c1
    refine k_iload_n C d_Union_readersOfColumn_4 rfl 1 rfl rfl ?_
    refine k_aload_n C d_Union_readersOfColumn_5 rfl 0 rfl rfl ?_
    refine k_getf C d_Union_readersOfColumn_6 hin_Union rfl 9 (by decide) mw121 0 rfl rfl rfl ?_
    refine k_icmp_ge (tgt := 21) C d_Union_readersOfColumn_9 (by decide) rfl (fun c2 => ?_) (fun c2 => ?_)
    · replace h := gi_t h c2
      refine k_lconst C d_Union_readersOfColumn_21 (v := (0 : Int64)) (by decide) rfl ?_
      exact k_lret C d_Union_readersOfColumn_22 (tr1 h (fun t => (fun (o : Option Value) (w : va_W) => o = some (.long (t)) ∧ w = w_Union_readersOfColumn (cI := cI) (cJ := cJ) (cC := cC) (cZ := cZ) (cR := cR) a_z a_zb a_zr a_zc a_zq a_ze a_za a_zd zz_pieceCount zz_ruleCount zz_columnCount zz_readersOfColumn) (some (Value.long (0 : Int64))) (w_Union_readersOfColumn (cI := cI) (cJ := cJ) (cC := cC) (cZ := cZ) (cR := cR) a_z a_zb a_zr a_zc a_zq a_ze a_za a_zd zz_pieceCount zz_ruleCount zz_columnCount zz_readersOfColumn)) ⟨rfl, rfl⟩)
    · replace h := gi_f h c2
      refine k_aload_n C d_Union_readersOfColumn_12 rfl 0 rfl rfl ?_
      refine k_getf C d_Union_readersOfColumn_13 hin_Union rfl 3 (by decide) mw123 0 rfl rfl rfl ?_
      refine k_iload_n C d_Union_readersOfColumn_16 rfl 1 rfl rfl ?_
      have g3 := gd1 h
      replace h := gd2 h
      refine k_lald C d_Union_readersOfColumn_17 1 1 rfl rfl (inB_in g3) rfl ?_
      refine k_goto (tgt := 22) C d_Union_readersOfColumn_18 (by decide) ?_
      exact k_lret C d_Union_readersOfColumn_22 (tr1 h (fun t => (fun (o : Option Value) (w : va_W) => o = some (.long (t)) ∧ w = w_Union_readersOfColumn (cI := cI) (cJ := cJ) (cC := cC) (cZ := cZ) (cR := cR) a_z a_zb a_zr a_zc a_zq a_ze a_za a_zd zz_pieceCount zz_ruleCount zz_columnCount zz_readersOfColumn) (some (Value.long (zz_readersOfColumn p1.toNatClampNeg))) (w_Union_readersOfColumn (cI := cI) (cJ := cJ) (cC := cC) (cZ := cZ) (cR := cR) a_z a_zb a_zr a_zc a_zq a_ze a_za a_zd zz_pieceCount zz_ruleCount zz_columnCount zz_readersOfColumn)) ⟨rfl, rfl⟩)
theorem d_Union_permissionsOf_0 : decode b_Union_permissionsOf 0 = .ok (.iconst 0, 1) := by decide +kernel
theorem d_Union_permissionsOf_1 : decode b_Union_permissionsOf 1 = .ok (.istore_n 3, 1) := by decide +kernel
theorem d_Union_permissionsOf_2 : decode b_Union_permissionsOf 2 = .ok (.iconst 0, 1) := by decide +kernel
theorem d_Union_permissionsOf_3 : decode b_Union_permissionsOf 3 = .ok (.istore 4, 2) := by decide +kernel
theorem d_Union_permissionsOf_5 : decode b_Union_permissionsOf 5 = .ok (.iconst 0, 1) := by decide +kernel
theorem d_Union_permissionsOf_6 : decode b_Union_permissionsOf 6 = .ok (.istore 5, 2) := by decide +kernel
theorem d_Union_permissionsOf_8 : decode b_Union_permissionsOf 8 = .ok (.iload 5, 2) := by decide +kernel
theorem d_Union_permissionsOf_10 : decode b_Union_permissionsOf 10 = .ok (.aload_n 0, 1) := by decide +kernel
theorem d_Union_permissionsOf_11 : decode b_Union_permissionsOf 11 = .ok (.getfield 44, 3) := by decide +kernel
theorem d_Union_permissionsOf_14 : decode b_Union_permissionsOf 14 = .ok (.if_icmp .ge 45, 3) := by decide +kernel
theorem d_Union_permissionsOf_17 : decode b_Union_permissionsOf 17 = .ok (.lload_n 1, 1) := by decide +kernel
theorem d_Union_permissionsOf_18 : decode b_Union_permissionsOf 18 = .ok (.aload_n 0, 1) := by decide +kernel
theorem d_Union_permissionsOf_19 : decode b_Union_permissionsOf 19 = .ok (.getfield 25, 3) := by decide +kernel
theorem d_Union_permissionsOf_22 : decode b_Union_permissionsOf 22 = .ok (.iload 5, 2) := by decide +kernel
theorem d_Union_permissionsOf_24 : decode b_Union_permissionsOf 24 = .ok (.laload, 1) := by decide +kernel
theorem d_Union_permissionsOf_25 : decode b_Union_permissionsOf 25 = .ok (.land, 1) := by decide +kernel
theorem d_Union_permissionsOf_26 : decode b_Union_permissionsOf 26 = .ok (.lconst 0, 1) := by decide +kernel
theorem d_Union_permissionsOf_27 : decode b_Union_permissionsOf 27 = .ok (.lcmp, 1) := by decide +kernel
theorem d_Union_permissionsOf_28 : decode b_Union_permissionsOf 28 = .ok (.ifCond .eq 25, 3) := by decide +kernel
theorem d_Union_permissionsOf_31 : decode b_Union_permissionsOf 31 = .ok (.iload_n 3, 1) := by decide +kernel
theorem d_Union_permissionsOf_32 : decode b_Union_permissionsOf 32 = .ok (.aload_n 0, 1) := by decide +kernel
theorem d_Union_permissionsOf_33 : decode b_Union_permissionsOf 33 = .ok (.getfield 28, 3) := by decide +kernel
theorem d_Union_permissionsOf_36 : decode b_Union_permissionsOf 36 = .ok (.iload 5, 2) := by decide +kernel
theorem d_Union_permissionsOf_38 : decode b_Union_permissionsOf 38 = .ok (.iaload, 1) := by decide +kernel
theorem d_Union_permissionsOf_39 : decode b_Union_permissionsOf 39 = .ok (.ior, 1) := by decide +kernel
theorem d_Union_permissionsOf_40 : decode b_Union_permissionsOf 40 = .ok (.istore_n 3, 1) := by decide +kernel
theorem d_Union_permissionsOf_41 : decode b_Union_permissionsOf 41 = .ok (.iload 4, 2) := by decide +kernel
theorem d_Union_permissionsOf_43 : decode b_Union_permissionsOf 43 = .ok (.aload_n 0, 1) := by decide +kernel
theorem d_Union_permissionsOf_44 : decode b_Union_permissionsOf 44 = .ok (.getfield 31, 3) := by decide +kernel
theorem d_Union_permissionsOf_47 : decode b_Union_permissionsOf 47 = .ok (.iload 5, 2) := by decide +kernel
theorem d_Union_permissionsOf_49 : decode b_Union_permissionsOf 49 = .ok (.iaload, 1) := by decide +kernel
theorem d_Union_permissionsOf_50 : decode b_Union_permissionsOf 50 = .ok (.ior, 1) := by decide +kernel
theorem d_Union_permissionsOf_51 : decode b_Union_permissionsOf 51 = .ok (.istore 4, 2) := by decide +kernel
theorem d_Union_permissionsOf_53 : decode b_Union_permissionsOf 53 = .ok (.iinc 5 1, 3) := by decide +kernel
theorem d_Union_permissionsOf_56 : decode b_Union_permissionsOf 56 = .ok (.goto (-48), 3) := by decide +kernel
theorem d_Union_permissionsOf_59 : decode b_Union_permissionsOf 59 = .ok (.iload_n 3, 1) := by decide +kernel
theorem d_Union_permissionsOf_60 : decode b_Union_permissionsOf 60 = .ok (.iload 4, 2) := by decide +kernel
theorem d_Union_permissionsOf_62 : decode b_Union_permissionsOf 62 = .ok (.iconst (-1), 1) := by decide +kernel
theorem d_Union_permissionsOf_63 : decode b_Union_permissionsOf 63 = .ok (.ixor, 1) := by decide +kernel
theorem d_Union_permissionsOf_64 : decode b_Union_permissionsOf 64 = .ok (.iand, 1) := by decide +kernel
theorem d_Union_permissionsOf_65 : decode b_Union_permissionsOf 65 = .ok (.ireturn, 1) := by decide +kernel
abbrev w_Union_permissionsOf {cI cJ cC cZ cR : ClassId} (a_z a_zb a_zr a_zc a_zq a_ze a_za a_zd : Nat) (zz_pieceCount : Int32) (zz_ruleCount : Int32) (zz_columnCount : Int32) (zz_endsOf : Nat → Int64) (zz_allowedBy : Nat → Int32) (zz_deniedBy : Nat → Int32) : va_W := [(a_z, .inr (4, [.ref a_zb, .ref a_zr, .ref a_zc, .ref a_zq, .ref a_ze, .ref a_za, .ref a_zd, .int zz_pieceCount, .int zz_ruleCount, .int zz_columnCount])), (a_ze, .inl (cJ, 6, .inr (.inl zz_endsOf))), (a_za, .inl (cI, 6, .inl zz_allowedBy)), (a_zd, .inl (cI, 6, .inl zz_deniedBy))]
def f_Union_permissionsOf_L8 (zz_ruleCount : Int32) (zz_endsOf : Nat → Int64) (zz_allowedBy : Nat → Int32) (zz_deniedBy : Nat → Int32) (p1 : Int64) (kk8_0 : Int32 → Int32 → Int32 → Option (Int32)) : Nat → Int32 → Int32 → Int32 → Option (Int32)
  | 0, _, _, _ => none
  | n_8 + 1, l5_8, l4_8, l3_8 => (if zz_ruleCount ≤ l5_8 then (kk8_0 l5_8 l4_8 l3_8) else (if inB l5_8 6 = true then (if (lg_cmp (p1 &&& (zz_endsOf l5_8.toNatClampNeg)) (0 : Int64)) = 0 then (f_Union_permissionsOf_L8 zz_ruleCount zz_endsOf zz_allowedBy zz_deniedBy p1 kk8_0 n_8 (l5_8 + 1) l4_8 l3_8) else (if inB l5_8 6 = true then (if inB l5_8 6 = true then (f_Union_permissionsOf_L8 zz_ruleCount zz_endsOf zz_allowedBy zz_deniedBy p1 kk8_0 n_8 (l5_8 + 1) (l4_8 ||| (zz_deniedBy l5_8.toNatClampNeg)) (l3_8 ||| (zz_allowedBy l5_8.toNatClampNeg))) else none) else none)) else none))
theorem f_Union_permissionsOf_L8_s (zz_ruleCount : Int32) (zz_endsOf : Nat → Int64) (zz_allowedBy : Nat → Int32) (zz_deniedBy : Nat → Int32) (p1 : Int64) (kk8_0 : Int32 → Int32 → Int32 → Option (Int32)) (n_8 : Nat) (l5_8 : Int32) (l4_8 : Int32) (l3_8 : Int32) : f_Union_permissionsOf_L8 zz_ruleCount zz_endsOf zz_allowedBy zz_deniedBy p1 kk8_0 (n_8 + 1) l5_8 l4_8 l3_8 = (if zz_ruleCount ≤ l5_8 then (kk8_0 l5_8 l4_8 l3_8) else (if inB l5_8 6 = true then (if (lg_cmp (p1 &&& (zz_endsOf l5_8.toNatClampNeg)) (0 : Int64)) = 0 then (f_Union_permissionsOf_L8 zz_ruleCount zz_endsOf zz_allowedBy zz_deniedBy p1 kk8_0 n_8 (l5_8 + 1) l4_8 l3_8) else (if inB l5_8 6 = true then (if inB l5_8 6 = true then (f_Union_permissionsOf_L8 zz_ruleCount zz_endsOf zz_allowedBy zz_deniedBy p1 kk8_0 n_8 (l5_8 + 1) (l4_8 ||| (zz_deniedBy l5_8.toNatClampNeg)) (l3_8 ||| (zz_allowedBy l5_8.toNatClampNeg))) else none) else none)) else none)) := rfl
def f_Union_permissionsOf (fu : Nat) (p1 : Int64) (zz_ruleCount : Int32) (zz_endsOf : Nat → Int64) (zz_allowedBy : Nat → Int32) (zz_deniedBy : Nat → Int32) : Option (Int32) := (f_Union_permissionsOf_L8 zz_ruleCount zz_endsOf zz_allowedBy zz_deniedBy p1 (fun l5_8 l4_8 l3_8 => some (l3_8 &&& (l4_8 ^^^ (-1 : Int32)))) fu (0 : Int32) (0 : Int32) (0 : Int32))
set_option maxRecDepth 100000 in
set_option maxHeartbeats 4000000 in
theorem c_Union_permissionsOf {l : Launch} {D : va_G} {cI cJ cC cZ cR : ClassId} (fu : Nat) (a_z a_zb a_zr a_zc a_zq a_ze a_za a_zd : Nat)   (zz_pieceCount : Int32) (zz_ruleCount : Int32) (zz_columnCount : Int32) (zz_endsOf : Nat → Int64) (zz_allowedBy : Nat → Int32) (zz_deniedBy : Nat → Int32) (p1 : Int64) (o_r : Int32) (h : f_Union_permissionsOf fu p1 zz_ruleCount zz_endsOf zz_allowedBy zz_deniedBy = some o_r) : GM l D (tysL cI cJ cC cZ cR) y_Union_permissionsOf b_Union_permissionsOf 6 (some (.int)) { frames := 0, cells := 0, slots := 0, locals := 0 } [.ref a_z, .long p1] (w_Union_permissionsOf (cI := cI) (cJ := cJ) (cC := cC) (cZ := cZ) (cR := cR) a_z a_zb a_zr a_zc a_zq a_ze a_za a_zd zz_pieceCount zz_ruleCount zz_columnCount zz_endsOf zz_allowedBy zz_deniedBy) (fun (o : Option Value) (w : va_W) => o = some (.int o_r) ∧ w = w_Union_permissionsOf (cI := cI) (cJ := cJ) (cC := cC) (cZ := cZ) (cR := cR) a_z a_zb a_zr a_zc a_zq a_ze a_za a_zd zz_pieceCount zz_ruleCount zz_columnCount zz_endsOf zz_allowedBy zz_deniedBy) := by
  refine GM.of (by decide) (Nat.le_of_ble_eq_true rfl) (lv := [(0, .ref a_z), (1, .long p1)]) rfl ?_
  intro X hX C
  subst hX
  refine k_iconst C d_Union_permissionsOf_0 (v := (0 : Int32)) (by decide) rfl ?_
  refine k_istore_n (lv' := [(3, .int (0 : Int32)), (0, .ref a_z), (1, .long p1)]) C d_Union_permissionsOf_1 rfl (by decide) rfl rfl ?_
  refine k_iconst C d_Union_permissionsOf_2 (v := (0 : Int32)) (by decide) rfl ?_
  refine k_istore (lv' := [(4, .int (0 : Int32)), (3, .int (0 : Int32)), (0, .ref a_z), (1, .long p1)]) C d_Union_permissionsOf_3 (by decide) rfl rfl ?_
  refine k_iconst C d_Union_permissionsOf_5 (v := (0 : Int32)) (by decide) rfl ?_
  refine k_istore (lv' := [(5, .int (0 : Int32)), (4, .int (0 : Int32)), (3, .int (0 : Int32)), (0, .ref a_z), (1, .long p1)]) C d_Union_permissionsOf_6 (by decide) rfl rfl ?_
  have X8_0 : ∀ (l5_8 : Int32) (l4_8 : Int32) (l3_8 : Int32), some (l3_8 &&& (l4_8 ^^^ (-1 : Int32))) = some o_r → Wk X { frames := 0, cells := 0, slots := 0, locals := 0 } 6 D (va_A (w_Union_permissionsOf (cI := cI) (cJ := cJ) (cC := cC) (cZ := cZ) (cR := cR) a_z a_zb a_zr a_zc a_zq a_ze a_za a_zd zz_pieceCount zz_ruleCount zz_columnCount zz_endsOf zz_allowedBy zz_deniedBy) (xs X).heap.size) 0 0 (GE X D (w_Union_permissionsOf (cI := cI) (cJ := cJ) (cC := cC) (cZ := cZ) (cR := cR) a_z a_zb a_zr a_zc a_zq a_ze a_za a_zd zz_pieceCount zz_ruleCount zz_columnCount zz_endsOf zz_allowedBy zz_deniedBy) (fun (o : Option Value) (w : va_W) => o = some (.int o_r) ∧ w = w_Union_permissionsOf (cI := cI) (cJ := cJ) (cC := cC) (cZ := cZ) (cR := cR) a_z a_zb a_zr a_zc a_zq a_ze a_za a_zd zz_pieceCount zz_ruleCount zz_columnCount zz_endsOf zz_allowedBy zz_deniedBy) 0 0) (w_Union_permissionsOf (cI := cI) (cJ := cJ) (cC := cC) (cZ := cZ) (cR := cR) a_z a_zb a_zr a_zc a_zq a_ze a_za a_zd zz_pieceCount zz_ruleCount zz_columnCount zz_endsOf zz_allowedBy zz_deniedBy) [(5, .int l5_8), (4, .int l4_8), (3, .int l3_8), (0, .ref a_z), (1, .long p1)] [] 59 := by
    intro l5_8 l4_8 l3_8 h
    refine k_iload_n C d_Union_permissionsOf_59 rfl 2 rfl rfl ?_
    refine k_iload C d_Union_permissionsOf_60 1 rfl rfl ?_
    refine k_iconst C d_Union_permissionsOf_62 (v := (-1 : Int32)) (by decide) rfl ?_
    refine k_ixor C d_Union_permissionsOf_63 rfl ?_
    refine k_iand C d_Union_permissionsOf_64 rfl ?_
    exact k_iret C d_Union_permissionsOf_65 (tr1 h (fun t => (fun (o : Option Value) (w : va_W) => o = some (.int (t)) ∧ w = w_Union_permissionsOf (cI := cI) (cJ := cJ) (cC := cC) (cZ := cZ) (cR := cR) a_z a_zb a_zr a_zc a_zq a_ze a_za a_zd zz_pieceCount zz_ruleCount zz_columnCount zz_endsOf zz_allowedBy zz_deniedBy) (some (Value.int (l3_8 &&& (l4_8 ^^^ (-1 : Int32))))) (w_Union_permissionsOf (cI := cI) (cJ := cJ) (cC := cC) (cZ := cZ) (cR := cR) a_z a_zb a_zr a_zc a_zq a_ze a_za a_zd zz_pieceCount zz_ruleCount zz_columnCount zz_endsOf zz_allowedBy zz_deniedBy)) ⟨rfl, rfl⟩)
  have L8 : ∀ (kk8_0 : Int32 → Int32 → Int32 → Option (Int32)) (hX8_0 : ∀ (l5_8 : Int32) (l4_8 : Int32) (l3_8 : Int32), kk8_0 l5_8 l4_8 l3_8 = some o_r → Wk X { frames := 0, cells := 0, slots := 0, locals := 0 } 6 D (va_A (w_Union_permissionsOf (cI := cI) (cJ := cJ) (cC := cC) (cZ := cZ) (cR := cR) a_z a_zb a_zr a_zc a_zq a_ze a_za a_zd zz_pieceCount zz_ruleCount zz_columnCount zz_endsOf zz_allowedBy zz_deniedBy) (xs X).heap.size) 0 0 (GE X D (w_Union_permissionsOf (cI := cI) (cJ := cJ) (cC := cC) (cZ := cZ) (cR := cR) a_z a_zb a_zr a_zc a_zq a_ze a_za a_zd zz_pieceCount zz_ruleCount zz_columnCount zz_endsOf zz_allowedBy zz_deniedBy) (fun (o : Option Value) (w : va_W) => o = some (.int o_r) ∧ w = w_Union_permissionsOf (cI := cI) (cJ := cJ) (cC := cC) (cZ := cZ) (cR := cR) a_z a_zb a_zr a_zc a_zq a_ze a_za a_zd zz_pieceCount zz_ruleCount zz_columnCount zz_endsOf zz_allowedBy zz_deniedBy) 0 0) (w_Union_permissionsOf (cI := cI) (cJ := cJ) (cC := cC) (cZ := cZ) (cR := cR) a_z a_zb a_zr a_zc a_zq a_ze a_za a_zd zz_pieceCount zz_ruleCount zz_columnCount zz_endsOf zz_allowedBy zz_deniedBy) [(5, .int l5_8), (4, .int l4_8), (3, .int l3_8), (0, .ref a_z), (1, .long p1)] [] 59) (n_8 : Nat) (l5_8 : Int32) (l4_8 : Int32) (l3_8 : Int32), f_Union_permissionsOf_L8 zz_ruleCount zz_endsOf zz_allowedBy zz_deniedBy p1 kk8_0 n_8 l5_8 l4_8 l3_8 = some o_r → Wk X { frames := 0, cells := 0, slots := 0, locals := 0 } 6 D (va_A (w_Union_permissionsOf (cI := cI) (cJ := cJ) (cC := cC) (cZ := cZ) (cR := cR) a_z a_zb a_zr a_zc a_zq a_ze a_za a_zd zz_pieceCount zz_ruleCount zz_columnCount zz_endsOf zz_allowedBy zz_deniedBy) (xs X).heap.size) 0 0 (GE X D (w_Union_permissionsOf (cI := cI) (cJ := cJ) (cC := cC) (cZ := cZ) (cR := cR) a_z a_zb a_zr a_zc a_zq a_ze a_za a_zd zz_pieceCount zz_ruleCount zz_columnCount zz_endsOf zz_allowedBy zz_deniedBy) (fun (o : Option Value) (w : va_W) => o = some (.int o_r) ∧ w = w_Union_permissionsOf (cI := cI) (cJ := cJ) (cC := cC) (cZ := cZ) (cR := cR) a_z a_zb a_zr a_zc a_zq a_ze a_za a_zd zz_pieceCount zz_ruleCount zz_columnCount zz_endsOf zz_allowedBy zz_deniedBy) 0 0) (w_Union_permissionsOf (cI := cI) (cJ := cJ) (cC := cC) (cZ := cZ) (cR := cR) a_z a_zb a_zr a_zc a_zq a_ze a_za a_zd zz_pieceCount zz_ruleCount zz_columnCount zz_endsOf zz_allowedBy zz_deniedBy) [(5, .int l5_8), (4, .int l4_8), (3, .int l3_8), (0, .ref a_z), (1, .long p1)] [] 8 := by
    intro kk8_0 hX8_0 n_8
    induction n_8 with
    | zero =>
      intro l5_8 l4_8 l3_8 h
      exact nS h
    | succ n_8 ih8 =>
      intro l5_8 l4_8 l3_8 h
      replace h := (f_Union_permissionsOf_L8_s _ _ _ _ _ _ _ _ _ _).symm.trans h
      refine k_iload C d_Union_permissionsOf_8 0 rfl rfl ?_
      refine k_aload_n C d_Union_permissionsOf_10 rfl 3 rfl rfl ?_
      refine k_getf C d_Union_permissionsOf_11 hin_Union rfl 8 (by decide) mw107 0 rfl rfl rfl ?_
      refine k_icmp_ge (tgt := 59) C d_Union_permissionsOf_14 (by decide) rfl (fun c1 => ?_) (fun c1 => ?_)
      · replace h := gi_t h c1
        exact hX8_0 l5_8 l4_8 l3_8 h
      · replace h := gi_f h c1
        refine k_lload_n C d_Union_permissionsOf_17 rfl 4 rfl rfl ?_
        refine k_aload_n C d_Union_permissionsOf_18 rfl 3 rfl rfl ?_
        refine k_getf C d_Union_permissionsOf_19 hin_Union rfl 4 (by decide) mw113 0 rfl rfl rfl ?_
        refine k_iload C d_Union_permissionsOf_22 0 rfl rfl ?_
        have g2 := gd1 h
        replace h := gd2 h
        refine k_lald C d_Union_permissionsOf_24 1 1 rfl rfl (inB_in g2) rfl ?_
        refine k_land C d_Union_permissionsOf_25 rfl ?_
        refine k_lconst C d_Union_permissionsOf_26 (v := (0 : Int64)) (by decide) rfl ?_
        refine k_lcmp C d_Union_permissionsOf_27 rfl ?_
        refine k_if_eq (tgt := 53) C d_Union_permissionsOf_28 (by decide) rfl (fun c3 => ?_) (fun c3 => ?_)
        · replace h := gi_t h c3
          refine k_iinc (lv' := [(5, .int (l5_8 + 1)), (4, .int l4_8), (3, .int l3_8), (0, .ref a_z), (1, .long p1)]) C d_Union_permissionsOf_53 0 rfl rfl (by decide) rfl rfl ?_
          refine k_goto (tgt := 8) C d_Union_permissionsOf_56 (by decide) ?_
          exact ih8 (l5_8 + 1) l4_8 l3_8 h
        · replace h := gi_f h c3
          refine k_iload_n C d_Union_permissionsOf_31 rfl 2 rfl rfl ?_
          refine k_aload_n C d_Union_permissionsOf_32 rfl 3 rfl rfl ?_
          refine k_getf C d_Union_permissionsOf_33 hin_Union rfl 5 (by decide) mw115 0 rfl rfl rfl ?_
          refine k_iload C d_Union_permissionsOf_36 0 rfl rfl ?_
          have g4 := gd1 h
          replace h := gd2 h
          refine k_iald C d_Union_permissionsOf_38 2 0 rfl rfl (inB_in g4) rfl ?_
          refine k_ior C d_Union_permissionsOf_39 rfl ?_
          refine k_istore_n (lv' := [(3, .int (l3_8 ||| (zz_allowedBy l5_8.toNatClampNeg))), (5, .int l5_8), (4, .int l4_8), (0, .ref a_z), (1, .long p1)]) C d_Union_permissionsOf_40 rfl (by decide) rfl rfl ?_
          refine k_iload C d_Union_permissionsOf_41 2 rfl rfl ?_
          refine k_aload_n C d_Union_permissionsOf_43 rfl 3 rfl rfl ?_
          refine k_getf C d_Union_permissionsOf_44 hin_Union rfl 6 (by decide) mw117 0 rfl rfl rfl ?_
          refine k_iload C d_Union_permissionsOf_47 1 rfl rfl ?_
          have g5 := gd1 h
          replace h := gd2 h
          refine k_iald C d_Union_permissionsOf_49 3 0 rfl rfl (inB_in g5) rfl ?_
          refine k_ior C d_Union_permissionsOf_50 rfl ?_
          refine k_istore (lv' := [(4, .int (l4_8 ||| (zz_deniedBy l5_8.toNatClampNeg))), (3, .int (l3_8 ||| (zz_allowedBy l5_8.toNatClampNeg))), (5, .int l5_8), (0, .ref a_z), (1, .long p1)]) C d_Union_permissionsOf_51 (by decide) rfl rfl ?_
          refine k_iinc (lv' := [(5, .int (l5_8 + 1)), (4, .int (l4_8 ||| (zz_deniedBy l5_8.toNatClampNeg))), (3, .int (l3_8 ||| (zz_allowedBy l5_8.toNatClampNeg))), (0, .ref a_z), (1, .long p1)]) C d_Union_permissionsOf_53 2 rfl rfl (by decide) rfl rfl ?_
          refine k_goto (tgt := 8) C d_Union_permissionsOf_56 (by decide) ?_
          exact ih8 (l5_8 + 1) (l4_8 ||| (zz_deniedBy l5_8.toNatClampNeg)) (l3_8 ||| (zz_allowedBy l5_8.toNatClampNeg)) h
  exact L8 (fun l5_8 l4_8 l3_8 => some (l3_8 &&& (l4_8 ^^^ (-1 : Int32)))) X8_0 fu (0 : Int32) (0 : Int32) (0 : Int32) h
