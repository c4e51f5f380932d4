theorem d_M_mark_0 : decode b_M_mark 0 = .ok (.aload_n 0, 1) := by decide +kernel
theorem d_M_mark_1 : decode b_M_mark 1 = .ok (.getfield 41, 3) := by decide +kernel
theorem d_M_mark_4 : decode b_M_mark 4 = .ok (.iload_n 1, 1) := by decide +kernel
theorem d_M_mark_5 : decode b_M_mark 5 = .ok (.baload, 1) := by decide +kernel
theorem d_M_mark_6 : decode b_M_mark 6 = .ok (.ifCond .eq 5, 3) := by decide +kernel
theorem d_M_mark_9 : decode b_M_mark 9 = .ok (.iload_n 2, 1) := by decide +kernel
theorem d_M_mark_10 : decode b_M_mark 10 = .ok (.ireturn, 1) := by decide +kernel
theorem d_M_mark_11 : decode b_M_mark 11 = .ok (.aload_n 0, 1) := by decide +kernel
theorem d_M_mark_12 : decode b_M_mark 12 = .ok (.getfield 41, 3) := by decide +kernel
theorem d_M_mark_15 : decode b_M_mark 15 = .ok (.iload_n 1, 1) := by decide +kernel
theorem d_M_mark_16 : decode b_M_mark 16 = .ok (.iconst 1, 1) := by decide +kernel
theorem d_M_mark_17 : decode b_M_mark 17 = .ok (.bastore, 1) := by decide +kernel
theorem d_M_mark_18 : decode b_M_mark 18 = .ok (.aload_n 0, 1) := by decide +kernel
theorem d_M_mark_19 : decode b_M_mark 19 = .ok (.getfield 44, 3) := by decide +kernel
theorem d_M_mark_22 : decode b_M_mark 22 = .ok (.iload_n 2, 1) := by decide +kernel
theorem d_M_mark_23 : decode b_M_mark 23 = .ok (.iload_n 1, 1) := by decide +kernel
theorem d_M_mark_24 : decode b_M_mark 24 = .ok (.iastore, 1) := by decide +kernel
theorem d_M_mark_25 : decode b_M_mark 25 = .ok (.iload_n 2, 1) := by decide +kernel
theorem d_M_mark_26 : decode b_M_mark 26 = .ok (.iconst 1, 1) := by decide +kernel
theorem d_M_mark_27 : decode b_M_mark 27 = .ok (.iadd, 1) := by decide +kernel
theorem d_M_mark_28 : decode b_M_mark 28 = .ok (.ireturn, 1) := by decide +kernel
abbrev w_M_mark {cI cJ cC cZ cR : ClassId} (a_m a_typed a_glob a_length a_allows a_permissions a_many a_sort a_piece a_onward a_open a_seen a_stack a_bytes a_star a_behind a_ends a_ruleOf a_classOf a_example a_set a_given a_kind a_finer a_leads a_stateOf a_setOf : Nat) (v_size : Int32) (v_rules : Int32) (v_items : Int32) (v_pieces : Int32) (v_first : Int64) (v_emptyOf : Int32) (v_classes : Int32) (v_sets : Int32) (v_states : Int32) (v_walker : Int32) (v_seen : Nat → Int32) (v_stack : Nat → Int32) : va_W := [(a_m, .inr (8, [.ref a_typed, .int v_size, .int v_rules, .ref a_glob, .ref a_length, .ref a_allows, .ref a_permissions, .ref a_many, .int v_items, .ref a_sort, .ref a_piece, .ref a_onward, .ref a_open, .ref a_seen, .ref a_stack, .int v_pieces, .ref a_bytes, .ref a_star, .ref a_behind, .ref a_ends, .ref a_ruleOf, .long v_first, .int v_emptyOf, .int v_classes, .ref a_classOf, .ref a_example, .int v_sets, .ref a_set, .ref a_given, .ref a_kind, .ref a_finer, .ref a_leads, .int v_states, .ref a_stateOf, .ref a_setOf, .int v_walker])), (a_seen, .inl (cZ, 42, .inl v_seen)), (a_stack, .inl (cI, 42, .inl v_stack))]
def f_M_mark (p1 : Int32) (p2 : Int32) (v_seen : Nat → Int32) (v_stack : Nat → Int32) : Option (Int32 × (Nat → Int32) × (Nat → Int32)) := (if inB p1 42 = true then (if (v_seen p1.toNatClampNeg) = 0 then (if inB p1 42 = true then (if inB p2 42 = true then some ((p2 + (1 : Int32)), (upd v_seen p1.toNatClampNeg (vp_nar .boolean (1 : Int32))), (upd v_stack p2.toNatClampNeg p1)) else none) else none) else some (p2, v_seen, v_stack)) else none)
set_option maxRecDepth 100000 in
set_option maxHeartbeats 4000000 in
theorem c_M_mark {l : Launch} {D : va_G} {cI cJ cC cZ cR : ClassId} (fu : Nat) (a_m a_typed a_glob a_length a_allows a_permissions a_many a_sort a_piece a_onward a_open a_seen a_stack a_bytes a_star a_behind a_ends a_ruleOf a_classOf a_example a_set a_given a_kind a_finer a_leads a_stateOf a_setOf : Nat)   (v_size : Int32) (v_rules : Int32) (v_items : Int32) (v_pieces : Int32) (v_first : Int64) (v_emptyOf : Int32) (v_classes : Int32) (v_sets : Int32) (v_states : Int32) (v_walker : Int32) (v_seen : Nat → Int32) (v_stack : Nat → Int32) (p1 : Int32) (p2 : Int32) (o_r : Int32) (o_v_seen : Nat → Int32) (o_v_stack : Nat → Int32) (h : f_M_mark p1 p2 v_seen v_stack = some (o_r, o_v_seen, o_v_stack)) : GM l D (tysL cI cJ cC cZ cR) y_M_mark b_M_mark 3 (some (.int)) { frames := 0, cells := 0, slots := 0, locals := 0 } [.ref a_m, .int p1, .int p2] (w_M_mark (cI := cI) (cJ := cJ) (cC := cC) (cZ := cZ) (cR := cR) a_m a_typed a_glob a_length a_allows a_permissions a_many a_sort a_piece a_onward a_open a_seen a_stack a_bytes a_star a_behind a_ends a_ruleOf a_classOf a_example a_set a_given a_kind a_finer a_leads a_stateOf a_setOf v_size v_rules v_items v_pieces v_first v_emptyOf v_classes v_sets v_states v_walker v_seen v_stack) (fun (o : Option Value) (w : va_W) => o = some (.int o_r) ∧ w = w_M_mark (cI := cI) (cJ := cJ) (cC := cC) (cZ := cZ) (cR := cR) a_m a_typed a_glob a_length a_allows a_permissions a_many a_sort a_piece a_onward a_open a_seen a_stack a_bytes a_star a_behind a_ends a_ruleOf a_classOf a_example a_set a_given a_kind a_finer a_leads a_stateOf a_setOf v_size v_rules v_items v_pieces v_first v_emptyOf v_classes v_sets v_states v_walker o_v_seen o_v_stack) := by
  refine GM.of (by decide) (Nat.le_of_ble_eq_true rfl) (lv := [(0, .ref a_m), (1, .int p1), (2, .int p2)]) rfl ?_
  intro X hX C
  subst hX
  refine k_aload_n C d_M_mark_0 rfl 0 rfl rfl ?_
  refine k_getf C d_M_mark_1 hin_M rfl 13 (by decide) mw19 0 rfl rfl rfl ?_
  refine k_iload_n C d_M_mark_4 rfl 1 rfl rfl ?_
  have g1 := gd1 h
  replace h := gd2 h
  refine k_zald C d_M_mark_5 1 3 rfl rfl (inB_in g1) rfl ?_
  refine k_if_eq (tgt := 11) C d_M_mark_6 (by decide) rfl (fun c2 => ?_) (fun c2 => ?_)
  · replace h := gi_t h c2
    refine k_aload_n C d_M_mark_11 rfl 0 rfl rfl ?_
    refine k_getf C d_M_mark_12 hin_M rfl 13 (by decide) mw19 0 rfl rfl rfl ?_
    refine k_iload_n C d_M_mark_15 rfl 1 rfl rfl ?_
    refine k_iconst C d_M_mark_16 (v := (1 : Int32)) (by decide) rfl ?_
    have g3 := gd1 h
    replace h := gd2 h
    refine k_zast (ws' := w_M_mark (cI := cI) (cJ := cJ) (cC := cC) (cZ := cZ) (cR := cR) a_m a_typed a_glob a_length a_allows a_permissions a_many a_sort a_piece a_onward a_open a_seen a_stack a_bytes a_star a_behind a_ends a_ruleOf a_classOf a_example a_set a_given a_kind a_finer a_leads a_stateOf a_setOf v_size v_rules v_items v_pieces v_first v_emptyOf v_classes v_sets v_states v_walker (upd v_seen p1.toNatClampNeg (vp_nar .boolean (1 : Int32))) v_stack) C d_M_mark_17 1 3 rfl rfl (inB_in g3) rfl rfl ?_
    refine k_aload_n C d_M_mark_18 rfl 0 rfl rfl ?_
    refine k_getf C d_M_mark_19 hin_M rfl 14 (by decide) mw20 0 rfl rfl rfl ?_
    refine k_iload_n C d_M_mark_22 rfl 2 rfl rfl ?_
    refine k_iload_n C d_M_mark_23 rfl 1 rfl rfl ?_
    have g4 := gd1 h
    replace h := gd2 h
    refine k_iast (ws' := w_M_mark (cI := cI) (cJ := cJ) (cC := cC) (cZ := cZ) (cR := cR) a_m a_typed a_glob a_length a_allows a_permissions a_many a_sort a_piece a_onward a_open a_seen a_stack a_bytes a_star a_behind a_ends a_ruleOf a_classOf a_example a_set a_given a_kind a_finer a_leads a_stateOf a_setOf v_size v_rules v_items v_pieces v_first v_emptyOf v_classes v_sets v_states v_walker (upd v_seen p1.toNatClampNeg (vp_nar .boolean (1 : Int32))) (upd v_stack p2.toNatClampNeg p1)) C d_M_mark_24 2 0 rfl rfl (inB_in g4) rfl rfl ?_
    refine k_iload_n C d_M_mark_25 rfl 2 rfl rfl ?_
    refine k_iconst C d_M_mark_26 (v := (1 : Int32)) (by decide) rfl ?_
    refine k_iadd C d_M_mark_27 rfl ?_
    exact k_iret C d_M_mark_28 (tr1 h (fun t => (fun (o : Option Value) (w : va_W) => o = some (.int (t.1)) ∧ w = w_M_mark (cI := cI) (cJ := cJ) (cC := cC) (cZ := cZ) (cR := cR) a_m a_typed a_glob a_length a_allows a_permissions a_many a_sort a_piece a_onward a_open a_seen a_stack a_bytes a_star a_behind a_ends a_ruleOf a_classOf a_example a_set a_given a_kind a_finer a_leads a_stateOf a_setOf v_size v_rules v_items v_pieces v_first v_emptyOf v_classes v_sets v_states v_walker (t.2.1) (t.2.2)) (some (Value.int (p2 + (1 : Int32)))) (w_M_mark (cI := cI) (cJ := cJ) (cC := cC) (cZ := cZ) (cR := cR) a_m a_typed a_glob a_length a_allows a_permissions a_many a_sort a_piece a_onward a_open a_seen a_stack a_bytes a_star a_behind a_ends a_ruleOf a_classOf a_example a_set a_given a_kind a_finer a_leads a_stateOf a_setOf v_size v_rules v_items v_pieces v_first v_emptyOf v_classes v_sets v_states v_walker (upd v_seen p1.toNatClampNeg (vp_nar .boolean (1 : Int32))) (upd v_stack p2.toNatClampNeg p1))) ⟨rfl, rfl⟩)
  · replace h := gi_f h c2
    refine k_iload_n C d_M_mark_9 rfl 2 rfl rfl ?_
    exact k_iret C d_M_mark_10 (tr1 h (fun t => (fun (o : Option Value) (w : va_W) => o = some (.int (t.1)) ∧ w = w_M_mark (cI := cI) (cJ := cJ) (cC := cC) (cZ := cZ) (cR := cR) a_m a_typed a_glob a_length a_allows a_permissions a_many a_sort a_piece a_onward a_open a_seen a_stack a_bytes a_star a_behind a_ends a_ruleOf a_classOf a_example a_set a_given a_kind a_finer a_leads a_stateOf a_setOf v_size v_rules v_items v_pieces v_first v_emptyOf v_classes v_sets v_states v_walker (t.2.1) (t.2.2)) (some (Value.int p2)) (w_M_mark (cI := cI) (cJ := cJ) (cC := cC) (cZ := cZ) (cR := cR) a_m a_typed a_glob a_length a_allows a_permissions a_many a_sort a_piece a_onward a_open a_seen a_stack a_bytes a_star a_behind a_ends a_ruleOf a_classOf a_example a_set a_given a_kind a_finer a_leads a_stateOf a_setOf v_size v_rules v_items v_pieces v_first v_emptyOf v_classes v_sets v_states v_walker v_seen v_stack)) ⟨rfl, rfl⟩)
theorem d_M_spread_0 : decode b_M_spread 0 = .ok (.iconst 0, 1) := by decide +kernel
theorem d_M_spread_1 : decode b_M_spread 1 = .ok (.istore_n 2, 1) := by decide +kernel
theorem d_M_spread_2 : decode b_M_spread 2 = .ok (.iload_n 2, 1) := by decide +kernel
theorem d_M_spread_3 : decode b_M_spread 3 = .ok (.aload_n 0, 1) := by decide +kernel
theorem d_M_spread_4 : decode b_M_spread 4 = .ok (.getfield 98, 3) := by decide +kernel
theorem d_M_spread_7 : decode b_M_spread 7 = .ok (.if_icmp .ge 16, 3) := by decide +kernel
theorem d_M_spread_10 : decode b_M_spread 10 = .ok (.aload_n 0, 1) := by decide +kernel
theorem d_M_spread_11 : decode b_M_spread 11 = .ok (.getfield 41, 3) := by decide +kernel
theorem d_M_spread_14 : decode b_M_spread 14 = .ok (.iload_n 2, 1) := by decide +kernel
theorem d_M_spread_15 : decode b_M_spread 15 = .ok (.iconst 0, 1) := by decide +kernel
theorem d_M_spread_16 : decode b_M_spread 16 = .ok (.bastore, 1) := by decide +kernel
theorem d_M_spread_17 : decode b_M_spread 17 = .ok (.iinc 2 1, 3) := by decide +kernel
theorem d_M_spread_20 : decode b_M_spread 20 = .ok (.goto (-18), 3) := by decide +kernel
theorem d_M_spread_23 : decode b_M_spread 23 = .ok (.iconst 1, 1) := by decide +kernel
theorem d_M_spread_24 : decode b_M_spread 24 = .ok (.istore_n 2, 1) := by decide +kernel
theorem d_M_spread_25 : decode b_M_spread 25 = .ok (.aload_n 0, 1) := by decide +kernel
theorem d_M_spread_26 : decode b_M_spread 26 = .ok (.getfield 44, 3) := by decide +kernel
theorem d_M_spread_29 : decode b_M_spread 29 = .ok (.iconst 0, 1) := by decide +kernel
theorem d_M_spread_30 : decode b_M_spread 30 = .ok (.iload_n 1, 1) := by decide +kernel
theorem d_M_spread_31 : decode b_M_spread 31 = .ok (.iastore, 1) := by decide +kernel
theorem d_M_spread_32 : decode b_M_spread 32 = .ok (.aload_n 0, 1) := by decide +kernel
theorem d_M_spread_33 : decode b_M_spread 33 = .ok (.getfield 41, 3) := by decide +kernel
theorem d_M_spread_36 : decode b_M_spread 36 = .ok (.iload_n 1, 1) := by decide +kernel
theorem d_M_spread_37 : decode b_M_spread 37 = .ok (.iconst 1, 1) := by decide +kernel
theorem d_M_spread_38 : decode b_M_spread 38 = .ok (.bastore, 1) := by decide +kernel
theorem d_M_spread_39 : decode b_M_spread 39 = .ok (.iload_n 2, 1) := by decide +kernel
theorem d_M_spread_40 : decode b_M_spread 40 = .ok (.ifCond .le 172, 3) := by decide +kernel
theorem d_M_spread_43 : decode b_M_spread 43 = .ok (.iload_n 2, 1) := by decide +kernel
theorem d_M_spread_44 : decode b_M_spread 44 = .ok (.iconst 1, 1) := by decide +kernel
theorem d_M_spread_45 : decode b_M_spread 45 = .ok (.isub, 1) := by decide +kernel
theorem d_M_spread_46 : decode b_M_spread 46 = .ok (.istore_n 2, 1) := by decide +kernel
theorem d_M_spread_47 : decode b_M_spread 47 = .ok (.aload_n 0, 1) := by decide +kernel
theorem d_M_spread_48 : decode b_M_spread 48 = .ok (.getfield 44, 3) := by decide +kernel
theorem d_M_spread_51 : decode b_M_spread 51 = .ok (.iload_n 2, 1) := by decide +kernel
theorem d_M_spread_52 : decode b_M_spread 52 = .ok (.iaload, 1) := by decide +kernel
theorem d_M_spread_53 : decode b_M_spread 53 = .ok (.istore_n 3, 1) := by decide +kernel
theorem d_M_spread_54 : decode b_M_spread 54 = .ok (.aload_n 0, 1) := by decide +kernel
theorem d_M_spread_55 : decode b_M_spread 55 = .ok (.getfield 29, 3) := by decide +kernel
theorem d_M_spread_58 : decode b_M_spread 58 = .ok (.iload_n 3, 1) := by decide +kernel
theorem d_M_spread_59 : decode b_M_spread 59 = .ok (.iaload, 1) := by decide +kernel
theorem d_M_spread_60 : decode b_M_spread 60 = .ok (.iconst 1, 1) := by decide +kernel
theorem d_M_spread_61 : decode b_M_spread 61 = .ok (.if_icmp .ne 7, 3) := by decide +kernel
theorem d_M_spread_64 : decode b_M_spread 64 = .ok (.iload_n 3, 1) := by decide +kernel
theorem d_M_spread_65 : decode b_M_spread 65 = .ok (.goto 4, 3) := by decide +kernel
theorem d_M_spread_68 : decode b_M_spread 68 = .ok (.iconst (-1), 1) := by decide +kernel
theorem d_M_spread_69 : decode b_M_spread 69 = .ok (.istore 4, 2) := by decide +kernel
theorem d_M_spread_71 : decode b_M_spread 71 = .ok (.iload 4, 2) := by decide +kernel
theorem d_M_spread_73 : decode b_M_spread 73 = .ok (.ifCond .lt 36, 3) := by decide +kernel
theorem d_M_spread_76 : decode b_M_spread 76 = .ok (.aload_n 0, 1) := by decide +kernel
theorem d_M_spread_77 : decode b_M_spread 77 = .ok (.getfield 29, 3) := by decide +kernel
theorem d_M_spread_80 : decode b_M_spread 80 = .ok (.iload 4, 2) := by decide +kernel
theorem d_M_spread_82 : decode b_M_spread 82 = .ok (.iaload, 1) := by decide +kernel
theorem d_M_spread_83 : decode b_M_spread 83 = .ok (.iconst 3, 1) := by decide +kernel
theorem d_M_spread_84 : decode b_M_spread 84 = .ok (.if_icmp .eq 25, 3) := by decide +kernel
theorem d_M_spread_87 : decode b_M_spread 87 = .ok (.aload_n 0, 1) := by decide +kernel
theorem d_M_spread_88 : decode b_M_spread 88 = .ok (.iload 4, 2) := by decide +kernel
theorem d_M_spread_90 : decode b_M_spread 90 = .ok (.iconst 1, 1) := by decide +kernel
theorem d_M_spread_91 : decode b_M_spread 91 = .ok (.iadd, 1) := by decide +kernel
theorem d_M_spread_92 : decode b_M_spread 92 = .ok (.iload_n 2, 1) := by decide +kernel
theorem d_M_spread_93 : decode b_M_spread 93 = .ok (.invokevirtual 132, 3) := by decide +kernel
theorem d_M_spread_96 : decode b_M_spread 96 = .ok (.istore_n 2, 1) := by decide +kernel
theorem d_M_spread_97 : decode b_M_spread 97 = .ok (.aload_n 0, 1) := by decide +kernel
theorem d_M_spread_98 : decode b_M_spread 98 = .ok (.getfield 35, 3) := by decide +kernel
theorem d_M_spread_101 : decode b_M_spread 101 = .ok (.iload 4, 2) := by decide +kernel
theorem d_M_spread_103 : decode b_M_spread 103 = .ok (.iaload, 1) := by decide +kernel
theorem d_M_spread_104 : decode b_M_spread 104 = .ok (.istore 4, 2) := by decide +kernel
theorem d_M_spread_106 : decode b_M_spread 106 = .ok (.goto (-35), 3) := by decide +kernel
theorem d_M_spread_109 : decode b_M_spread 109 = .ok (.aload_n 0, 1) := by decide +kernel
theorem d_M_spread_110 : decode b_M_spread 110 = .ok (.getfield 29, 3) := by decide +kernel
theorem d_M_spread_113 : decode b_M_spread 113 = .ok (.iload_n 3, 1) := by decide +kernel
theorem d_M_spread_114 : decode b_M_spread 114 = .ok (.iaload, 1) := by decide +kernel
theorem d_M_spread_115 : decode b_M_spread 115 = .ok (.iconst 2, 1) := by decide +kernel
theorem d_M_spread_116 : decode b_M_spread 116 = .ok (.if_icmp .ne 7, 3) := by decide +kernel
theorem d_M_spread_119 : decode b_M_spread 119 = .ok (.iload_n 3, 1) := by decide +kernel
theorem d_M_spread_120 : decode b_M_spread 120 = .ok (.goto 4, 3) := by decide +kernel
theorem d_M_spread_123 : decode b_M_spread 123 = .ok (.iconst (-1), 1) := by decide +kernel
theorem d_M_spread_124 : decode b_M_spread 124 = .ok (.istore 5, 2) := by decide +kernel
theorem d_M_spread_126 : decode b_M_spread 126 = .ok (.iload 5, 2) := by decide +kernel
theorem d_M_spread_128 : decode b_M_spread 128 = .ok (.ifCond .lt 26, 3) := by decide +kernel
theorem d_M_spread_131 : decode b_M_spread 131 = .ok (.aload_n 0, 1) := by decide +kernel
theorem d_M_spread_132 : decode b_M_spread 132 = .ok (.getfield 29, 3) := by decide +kernel
theorem d_M_spread_135 : decode b_M_spread 135 = .ok (.iload 5, 2) := by decide +kernel
theorem d_M_spread_137 : decode b_M_spread 137 = .ok (.iaload, 1) := by decide +kernel
theorem d_M_spread_138 : decode b_M_spread 138 = .ok (.iconst 3, 1) := by decide +kernel
theorem d_M_spread_139 : decode b_M_spread 139 = .ok (.if_icmp .eq 15, 3) := by decide +kernel
theorem d_M_spread_142 : decode b_M_spread 142 = .ok (.aload_n 0, 1) := by decide +kernel
theorem d_M_spread_143 : decode b_M_spread 143 = .ok (.getfield 35, 3) := by decide +kernel
theorem d_M_spread_146 : decode b_M_spread 146 = .ok (.iload 5, 2) := by decide +kernel
theorem d_M_spread_148 : decode b_M_spread 148 = .ok (.iaload, 1) := by decide +kernel
theorem d_M_spread_149 : decode b_M_spread 149 = .ok (.istore 5, 2) := by decide +kernel
theorem d_M_spread_151 : decode b_M_spread 151 = .ok (.goto (-25), 3) := by decide +kernel
theorem d_M_spread_154 : decode b_M_spread 154 = .ok (.iload 5, 2) := by decide +kernel
theorem d_M_spread_156 : decode b_M_spread 156 = .ok (.ifCond .lt 11, 3) := by decide +kernel
theorem d_M_spread_159 : decode b_M_spread 159 = .ok (.aload_n 0, 1) := by decide +kernel
theorem d_M_spread_160 : decode b_M_spread 160 = .ok (.iload 5, 2) := by decide +kernel
theorem d_M_spread_162 : decode b_M_spread 162 = .ok (.iload_n 2, 1) := by decide +kernel
theorem d_M_spread_163 : decode b_M_spread 163 = .ok (.invokevirtual 132, 3) := by decide +kernel
theorem d_M_spread_166 : decode b_M_spread 166 = .ok (.istore_n 2, 1) := by decide +kernel
theorem d_M_spread_167 : decode b_M_spread 167 = .ok (.aload_n 0, 1) := by decide +kernel
theorem d_M_spread_168 : decode b_M_spread 168 = .ok (.getfield 29, 3) := by decide +kernel
theorem d_M_spread_171 : decode b_M_spread 171 = .ok (.iload_n 3, 1) := by decide +kernel
theorem d_M_spread_172 : decode b_M_spread 172 = .ok (.iaload, 1) := by decide +kernel
theorem d_M_spread_173 : decode b_M_spread 173 = .ok (.iconst 3, 1) := by decide +kernel
theorem d_M_spread_174 : decode b_M_spread 174 = .ok (.if_icmp .eq 26, 3) := by decide +kernel
theorem d_M_spread_177 : decode b_M_spread 177 = .ok (.aload_n 0, 1) := by decide +kernel
theorem d_M_spread_178 : decode b_M_spread 178 = .ok (.getfield 29, 3) := by decide +kernel
theorem d_M_spread_181 : decode b_M_spread 181 = .ok (.iload_n 3, 1) := by decide +kernel
theorem d_M_spread_182 : decode b_M_spread 182 = .ok (.iaload, 1) := by decide +kernel
theorem d_M_spread_183 : decode b_M_spread 183 = .ok (.ifCond .ne 26, 3) := by decide +kernel
theorem d_M_spread_186 : decode b_M_spread 186 = .ok (.aload_n 0, 1) := by decide +kernel
theorem d_M_spread_187 : decode b_M_spread 187 = .ok (.getfield 51, 3) := by decide +kernel
theorem d_M_spread_190 : decode b_M_spread 190 = .ok (.aload_n 0, 1) := by decide +kernel
theorem d_M_spread_191 : decode b_M_spread 191 = .ok (.getfield 32, 3) := by decide +kernel
theorem d_M_spread_194 : decode b_M_spread 194 = .ok (.iload_n 3, 1) := by decide +kernel
theorem d_M_spread_195 : decode b_M_spread 195 = .ok (.iaload, 1) := by decide +kernel
theorem d_M_spread_196 : decode b_M_spread 196 = .ok (.baload, 1) := by decide +kernel
theorem d_M_spread_197 : decode b_M_spread 197 = .ok (.ifCond .eq 12, 3) := by decide +kernel
theorem d_M_spread_200 : decode b_M_spread 200 = .ok (.aload_n 0, 1) := by decide +kernel
theorem d_M_spread_201 : decode b_M_spread 201 = .ok (.iload_n 3, 1) := by decide +kernel
theorem d_M_spread_202 : decode b_M_spread 202 = .ok (.iconst 1, 1) := by decide +kernel
theorem d_M_spread_203 : decode b_M_spread 203 = .ok (.iadd, 1) := by decide +kernel
theorem d_M_spread_204 : decode b_M_spread 204 = .ok (.iload_n 2, 1) := by decide +kernel
theorem d_M_spread_205 : decode b_M_spread 205 = .ok (.invokevirtual 132, 3) := by decide +kernel
theorem d_M_spread_208 : decode b_M_spread 208 = .ok (.istore_n 2, 1) := by decide +kernel
theorem d_M_spread_209 : decode b_M_spread 209 = .ok (.goto (-170), 3) := by decide +kernel
theorem d_M_spread_212 : decode b_M_spread 212 = .ok (.return_, 1) := by decide +kernel
abbrev w_M_spread {cI cJ cC cZ cR : ClassId} (a_m a_typed a_glob a_length a_allows a_permissions a_many a_sort a_piece a_onward a_open a_seen a_stack a_bytes a_star a_behind a_ends a_ruleOf a_classOf a_example a_set a_given a_kind a_finer a_leads a_stateOf a_setOf : Nat) (v_size : Int32) (v_rules : Int32) (v_items : Int32) (v_pieces : Int32) (v_first : Int64) (v_emptyOf : Int32) (v_classes : Int32) (v_sets : Int32) (v_states : Int32) (v_walker : Int32) (v_sort : Nat → Int32) (v_piece : Nat → Int32) (v_onward : Nat → Int32) (v_seen : Nat → Int32) (v_stack : Nat → Int32) (v_star : Nat → Int32) : va_W := [(a_m, .inr (8, [.ref a_typed, .int v_size, .int v_rules, .ref a_glob, .ref a_length, .ref a_allows, .ref a_permissions, .ref a_many, .int v_items, .ref a_sort, .ref a_piece, .ref a_onward, .ref a_open, .ref a_seen, .ref a_stack, .int v_pieces, .ref a_bytes, .ref a_star, .ref a_behind, .ref a_ends, .ref a_ruleOf, .long v_first, .int v_emptyOf, .int v_classes, .ref a_classOf, .ref a_example, .int v_sets, .ref a_set, .ref a_given, .ref a_kind, .ref a_finer, .ref a_leads, .int v_states, .ref a_stateOf, .ref a_setOf, .int v_walker])), (a_sort, .inl (cI, 42, .inl v_sort)), (a_piece, .inl (cI, 42, .inl v_piece)), (a_onward, .inl (cI, 42, .inl v_onward)), (a_seen, .inl (cZ, 42, .inl v_seen)), (a_stack, .inl (cI, 42, .inl v_stack)), (a_star, .inl (cZ, 100, .inl v_star))]
def f_M_spread_J167 (v_sort : Nat → Int32) (v_piece : Nat → Int32) (v_star : Nat → Int32) (kb39 : Int32 → (Nat → Int32) → (Nat → Int32) → Option ((Nat → Int32) × (Nat → Int32))) (l3_j167 : Int32) (l2_j167 : Int32) (v_seen_j167 : Nat → Int32) (v_stack_j167 : Nat → Int32) : Option ((Nat → Int32) × (Nat → Int32)) := (if inB l3_j167 42 = true then (if (v_sort l3_j167.toNatClampNeg) = (3 : Int32) then (Option.bind (f_M_mark (l3_j167 + (1 : Int32)) l2_j167 v_seen_j167 v_stack_j167) fun (r7, yv_seen_8, yv_stack_9) => (kb39 r7 yv_seen_8 yv_stack_9)) else (if inB l3_j167 42 = true then (if (v_sort l3_j167.toNatClampNeg) = 0 then (if inB l3_j167 42 = true then (if inB (v_piece l3_j167.toNatClampNeg) 100 = true then (if (v_star (v_piece l3_j167.toNatClampNeg).toNatClampNeg) = 0 then (kb39 l2_j167 v_seen_j167 v_stack_j167) else (Option.bind (f_M_mark (l3_j167 + (1 : Int32)) l2_j167 v_seen_j167 v_stack_j167) fun (r16, yv_seen_17, yv_stack_18) => (kb39 r16 yv_seen_17 yv_stack_18))) else none) else none) else (kb39 l2_j167 v_seen_j167 v_stack_j167)) else none)) else none)
def f_M_spread_J154 (v_sort : Nat → Int32) (v_piece : Nat → Int32) (v_star : Nat → Int32) (kb39 : Int32 → (Nat → Int32) → (Nat → Int32) → Option ((Nat → Int32) × (Nat → Int32))) (l5_j154 : Int32) (l3_j154 : Int32) (l2_j154 : Int32) (v_seen_j154 : Nat → Int32) (v_stack_j154 : Nat → Int32) : Option ((Nat → Int32) × (Nat → Int32)) := (if l5_j154 < 0 then (f_M_spread_J167 v_sort v_piece v_star kb39 l3_j154 l2_j154 v_seen_j154 v_stack_j154) else (Option.bind (f_M_mark l5_j154 l2_j154 v_seen_j154 v_stack_j154) fun (r21, yv_seen_22, yv_stack_23) => (f_M_spread_J167 v_sort v_piece v_star kb39 l3_j154 r21 yv_seen_22 yv_stack_23)))
def f_M_spread_L126 (v_sort : Nat → Int32) (v_onward : Nat → Int32) (kk126_0 : Int32 → Option ((Nat → Int32) × (Nat → Int32))) : Nat → Int32 → Option ((Nat → Int32) × (Nat → Int32))
  | 0, _ => none
  | n_126 + 1, l5_126 => (if l5_126 < 0 then (kk126_0 l5_126) else (if inB l5_126 42 = true then (if (v_sort l5_126.toNatClampNeg) = (3 : Int32) then (kk126_0 l5_126) else (if inB l5_126 42 = true then ((fun l5_126 => f_M_spread_L126 v_sort v_onward kk126_0 n_126 l5_126) (v_onward l5_126.toNatClampNeg)) else none)) else none))
theorem f_M_spread_L126_s (v_sort : Nat → Int32) (v_onward : Nat → Int32) (kk126_0 : Int32 → Option ((Nat → Int32) × (Nat → Int32))) (n_126 : Nat) (l5_126 : Int32) : f_M_spread_L126 v_sort v_onward kk126_0 (n_126 + 1) l5_126 = (if l5_126 < 0 then (kk126_0 l5_126) else (if inB l5_126 42 = true then (if (v_sort l5_126.toNatClampNeg) = (3 : Int32) then (kk126_0 l5_126) else (if inB l5_126 42 = true then ((fun l5_126 => f_M_spread_L126 v_sort v_onward kk126_0 n_126 l5_126) (v_onward l5_126.toNatClampNeg)) else none)) else none)) := rfl
def f_M_spread_J124 (v_sort : Nat → Int32) (v_piece : Nat → Int32) (v_onward : Nat → Int32) (v_star : Nat → Int32) (fu : Nat) (kb39 : Int32 → (Nat → Int32) → (Nat → Int32) → Option ((Nat → Int32) × (Nat → Int32))) (l3_j124 : Int32) (l2_j124 : Int32) (s0_j124 : Int32) (v_seen_j124 : Nat → Int32) (v_stack_j124 : Nat → Int32) : Option ((Nat → Int32) × (Nat → Int32)) := (f_M_spread_L126 v_sort v_onward (fun l5_126 => (f_M_spread_J154 v_sort v_piece v_star kb39 l5_126 l3_j124 l2_j124 v_seen_j124 v_stack_j124)) fu s0_j124)
def f_M_spread_J109 (v_sort : Nat → Int32) (v_piece : Nat → Int32) (v_onward : Nat → Int32) (v_star : Nat → Int32) (fu : Nat) (kb39 : Int32 → (Nat → Int32) → (Nat → Int32) → Option ((Nat → Int32) × (Nat → Int32))) (l3_j109 : Int32) (l2_j109 : Int32) (v_seen_j109 : Nat → Int32) (v_stack_j109 : Nat → Int32) : Option ((Nat → Int32) × (Nat → Int32)) := (if inB l3_j109 42 = true then (if (v_sort l3_j109.toNatClampNeg) = (2 : Int32) then (f_M_spread_J124 v_sort v_piece v_onward v_star fu kb39 l3_j109 l2_j109 l3_j109 v_seen_j109 v_stack_j109) else (f_M_spread_J124 v_sort v_piece v_onward v_star fu kb39 l3_j109 l2_j109 (-1 : Int32) v_seen_j109 v_stack_j109)) else none)
def f_M_spread_L71 (v_sort : Nat → Int32) (v_onward : Nat → Int32) (kk71_0 : Int32 → Int32 → (Nat → Int32) → (Nat → Int32) → Option ((Nat → Int32) × (Nat → Int32))) : Nat → Int32 → Int32 → (Nat → Int32) → (Nat → Int32) → Option ((Nat → Int32) × (Nat → Int32))
  | 0, _, _, _, _ => none
  | n_71 + 1, l4_71, l2_71, v_seen_71, v_stack_71 => (if l4_71 < 0 then (kk71_0 l4_71 l2_71 v_seen_71 v_stack_71) else (if inB l4_71 42 = true then (if (v_sort l4_71.toNatClampNeg) = (3 : Int32) then (kk71_0 l4_71 l2_71 v_seen_71 v_stack_71) else (Option.bind (f_M_mark (l4_71 + (1 : Int32)) l2_71 v_seen_71 v_stack_71) fun (r34, yv_seen_35, yv_stack_36) => (if inB l4_71 42 = true then ((fun l4_71 l2_71 v_seen_71 v_stack_71 => f_M_spread_L71 v_sort v_onward kk71_0 n_71 l4_71 l2_71 v_seen_71 v_stack_71) (v_onward l4_71.toNatClampNeg) r34 yv_seen_35 yv_stack_36) else none))) else none))
theorem f_M_spread_L71_s (v_sort : Nat → Int32) (v_onward : Nat → Int32) (kk71_0 : Int32 → Int32 → (Nat → Int32) → (Nat → Int32) → Option ((Nat → Int32) × (Nat → Int32))) (n_71 : Nat) (l4_71 : Int32) (l2_71 : Int32) (v_seen_71 : Nat → Int32) (v_stack_71 : Nat → Int32) : f_M_spread_L71 v_sort v_onward kk71_0 (n_71 + 1) l4_71 l2_71 v_seen_71 v_stack_71 = (if l4_71 < 0 then (kk71_0 l4_71 l2_71 v_seen_71 v_stack_71) else (if inB l4_71 42 = true then (if (v_sort l4_71.toNatClampNeg) = (3 : Int32) then (kk71_0 l4_71 l2_71 v_seen_71 v_stack_71) else (Option.bind (f_M_mark (l4_71 + (1 : Int32)) l2_71 v_seen_71 v_stack_71) fun (r34, yv_seen_35, yv_stack_36) => (if inB l4_71 42 = true then ((fun l4_71 l2_71 v_seen_71 v_stack_71 => f_M_spread_L71 v_sort v_onward kk71_0 n_71 l4_71 l2_71 v_seen_71 v_stack_71) (v_onward l4_71.toNatClampNeg) r34 yv_seen_35 yv_stack_36) else none))) else none)) := rfl
def f_M_spread_J69 (v_sort : Nat → Int32) (v_piece : Nat → Int32) (v_onward : Nat → Int32) (v_star : Nat → Int32) (fu : Nat) (kb39 : Int32 → (Nat → Int32) → (Nat → Int32) → Option ((Nat → Int32) × (Nat → Int32))) (l3_j69 : Int32) (l2_j69 : Int32) (s0_j69 : Int32) (v_seen_j69 : Nat → Int32) (v_stack_j69 : Nat → Int32) : Option ((Nat → Int32) × (Nat → Int32)) := (f_M_spread_L71 v_sort v_onward (fun l4_71 l2_71 v_seen_71 v_stack_71 => (f_M_spread_J109 v_sort v_piece v_onward v_star fu kb39 l3_j69 l2_71 v_seen_71 v_stack_71)) fu s0_j69 l2_j69 v_seen_j69 v_stack_j69)
def f_M_spread_L39 (v_sort : Nat → Int32) (v_piece : Nat → Int32) (v_onward : Nat → Int32) (v_star : Nat → Int32) (fu : Nat) (kk39_0 : Int32 → (Nat → Int32) → (Nat → Int32) → Option ((Nat → Int32) × (Nat → Int32))) : Nat → Int32 → (Nat → Int32) → (Nat → Int32) → Option ((Nat → Int32) × (Nat → Int32))
  | 0, _, _, _ => none
  | n_39 + 1, l2_39, v_seen_39, v_stack_39 => (if l2_39 ≤ 0 then (kk39_0 l2_39 v_seen_39 v_stack_39) else (if inB (l2_39 - (1 : Int32)) 42 = true then (if inB (v_stack_39 (l2_39 - (1 : Int32)).toNatClampNeg) 42 = true then (if (v_sort (v_stack_39 (l2_39 - (1 : Int32)).toNatClampNeg).toNatClampNeg) = (1 : Int32) then (f_M_spread_J69 v_sort v_piece v_onward v_star fu (fun l2_39 v_seen_39 v_stack_39 => f_M_spread_L39 v_sort v_piece v_onward v_star fu kk39_0 n_39 l2_39 v_seen_39 v_stack_39) (v_stack_39 (l2_39 - (1 : Int32)).toNatClampNeg) (l2_39 - (1 : Int32)) (v_stack_39 (l2_39 - (1 : Int32)).toNatClampNeg) v_seen_39 v_stack_39) else (f_M_spread_J69 v_sort v_piece v_onward v_star fu (fun l2_39 v_seen_39 v_stack_39 => f_M_spread_L39 v_sort v_piece v_onward v_star fu kk39_0 n_39 l2_39 v_seen_39 v_stack_39) (v_stack_39 (l2_39 - (1 : Int32)).toNatClampNeg) (l2_39 - (1 : Int32)) (-1 : Int32) v_seen_39 v_stack_39)) else none) else none))
theorem f_M_spread_L39_s (v_sort : Nat → Int32) (v_piece : Nat → Int32) (v_onward : Nat → Int32) (v_star : Nat → Int32) (fu : Nat) (kk39_0 : Int32 → (Nat → Int32) → (Nat → Int32) → Option ((Nat → Int32) × (Nat → Int32))) (n_39 : Nat) (l2_39 : Int32) (v_seen_39 : Nat → Int32) (v_stack_39 : Nat → Int32) : f_M_spread_L39 v_sort v_piece v_onward v_star fu kk39_0 (n_39 + 1) l2_39 v_seen_39 v_stack_39 = (if l2_39 ≤ 0 then (kk39_0 l2_39 v_seen_39 v_stack_39) else (if inB (l2_39 - (1 : Int32)) 42 = true then (if inB (v_stack_39 (l2_39 - (1 : Int32)).toNatClampNeg) 42 = true then (if (v_sort (v_stack_39 (l2_39 - (1 : Int32)).toNatClampNeg).toNatClampNeg) = (1 : Int32) then (f_M_spread_J69 v_sort v_piece v_onward v_star fu (fun l2_39 v_seen_39 v_stack_39 => f_M_spread_L39 v_sort v_piece v_onward v_star fu kk39_0 n_39 l2_39 v_seen_39 v_stack_39) (v_stack_39 (l2_39 - (1 : Int32)).toNatClampNeg) (l2_39 - (1 : Int32)) (v_stack_39 (l2_39 - (1 : Int32)).toNatClampNeg) v_seen_39 v_stack_39) else (f_M_spread_J69 v_sort v_piece v_onward v_star fu (fun l2_39 v_seen_39 v_stack_39 => f_M_spread_L39 v_sort v_piece v_onward v_star fu kk39_0 n_39 l2_39 v_seen_39 v_stack_39) (v_stack_39 (l2_39 - (1 : Int32)).toNatClampNeg) (l2_39 - (1 : Int32)) (-1 : Int32) v_seen_39 v_stack_39)) else none) else none)) := rfl
def f_M_spread_L2 (v_items : Int32) (kk2_0 : Int32 → (Nat → Int32) → Option ((Nat → Int32) × (Nat → Int32))) : Nat → Int32 → (Nat → Int32) → Option ((Nat → Int32) × (Nat → Int32))
  | 0, _, _ => none
  | n_2 + 1, l2_2, v_seen_2 => (if v_items ≤ l2_2 then (kk2_0 l2_2 v_seen_2) else (if inB l2_2 42 = true then (f_M_spread_L2 v_items kk2_0 n_2 (l2_2 + 1) (upd v_seen_2 l2_2.toNatClampNeg (vp_nar .boolean (0 : Int32)))) else none))
theorem f_M_spread_L2_s (v_items : Int32) (kk2_0 : Int32 → (Nat → Int32) → Option ((Nat → Int32) × (Nat → Int32))) (n_2 : Nat) (l2_2 : Int32) (v_seen_2 : Nat → Int32) : f_M_spread_L2 v_items kk2_0 (n_2 + 1) l2_2 v_seen_2 = (if v_items ≤ l2_2 then (kk2_0 l2_2 v_seen_2) else (if inB l2_2 42 = true then (f_M_spread_L2 v_items kk2_0 n_2 (l2_2 + 1) (upd v_seen_2 l2_2.toNatClampNeg (vp_nar .boolean (0 : Int32)))) else none)) := rfl
def f_M_spread (fu : Nat) (p1 : Int32) (v_items : Int32) (v_sort : Nat → Int32) (v_piece : Nat → Int32) (v_onward : Nat → Int32) (v_seen : Nat → Int32) (v_stack : Nat → Int32) (v_star : Nat → Int32) : Option ((Nat → Int32) × (Nat → Int32)) := (f_M_spread_L2 v_items (fun l2_2 v_seen_2 => (if inB (0 : Int32) 42 = true then (if inB p1 42 = true then (f_M_spread_L39 v_sort v_piece v_onward v_star fu (fun l2_39 v_seen_39 v_stack_39 => some (v_seen_39, v_stack_39)) fu (1 : Int32) (upd v_seen_2 p1.toNatClampNeg (vp_nar .boolean (1 : Int32))) (upd v_stack (0 : Int32).toNatClampNeg p1)) else none) else none)) fu (0 : Int32) v_seen)
set_option maxRecDepth 100000 in
set_option maxHeartbeats 4000000 in
theorem c_M_spread {l : Launch} {D : va_G} {cI cJ cC cZ cR : ClassId} (fu : Nat) (a_m a_typed a_glob a_length a_allows a_permissions a_many a_sort a_piece a_onward a_open a_seen a_stack a_bytes a_star a_behind a_ends a_ruleOf a_classOf a_example a_set a_given a_kind a_finer a_leads a_stateOf a_setOf : Nat)   (v_size : Int32) (v_rules : Int32) (v_items : Int32) (v_pieces : Int32) (v_first : Int64) (v_emptyOf : Int32) (v_classes : Int32) (v_sets : Int32) (v_states : Int32) (v_walker : Int32) (v_sort : Nat → Int32) (v_piece : Nat → Int32) (v_onward : Nat → Int32) (v_seen : Nat → Int32) (v_stack : Nat → Int32) (v_star : Nat → Int32) (p1 : Int32) (o_v_seen : Nat → Int32) (o_v_stack : Nat → Int32) (h : f_M_spread fu p1 v_items v_sort v_piece v_onward v_seen v_stack v_star = some (o_v_seen, o_v_stack)) : GM l D (tysL cI cJ cC cZ cR) y_M_spread b_M_spread 6 none { frames := 1, cells := 0, slots := 0, locals := 22 } [.ref a_m, .int p1] (w_M_spread (cI := cI) (cJ := cJ) (cC := cC) (cZ := cZ) (cR := cR) a_m a_typed a_glob a_length a_allows a_permissions a_many a_sort a_piece a_onward a_open a_seen a_stack a_bytes a_star a_behind a_ends a_ruleOf a_classOf a_example a_set a_given a_kind a_finer a_leads a_stateOf a_setOf v_size v_rules v_items v_pieces v_first v_emptyOf v_classes v_sets v_states v_walker v_sort v_piece v_onward v_seen v_stack v_star) (fun (o : Option Value) (w : va_W) => o = none ∧ w = w_M_spread (cI := cI) (cJ := cJ) (cC := cC) (cZ := cZ) (cR := cR) a_m a_typed a_glob a_length a_allows a_permissions a_many a_sort a_piece a_onward a_open a_seen a_stack a_bytes a_star a_behind a_ends a_ruleOf a_classOf a_example a_set a_given a_kind a_finer a_leads a_stateOf a_setOf v_size v_rules v_items v_pieces v_first v_emptyOf v_classes v_sets v_states v_walker v_sort v_piece v_onward o_v_seen o_v_stack v_star) := by
  refine GM.of (by decide) (Nat.le_of_ble_eq_true rfl) (lv := [(0, .ref a_m), (1, .int p1)]) rfl ?_
  intro X hX C
  subst hX
  refine k_iconst C d_M_spread_0 (v := (0 : Int32)) (by decide) rfl ?_
  refine k_istore_n (lv' := [(2, .int (0 : Int32)), (0, .ref a_m), (1, .int p1)]) C d_M_spread_1 rfl (by decide) rfl rfl ?_
  have X2_0 : ∀ (l2_2 : Int32) (v_seen_2 : Nat → Int32), (if inB (0 : Int32) 42 = true then (if inB p1 42 = true then (f_M_spread_L39 v_sort v_piece v_onward v_star fu (fun l2_39 v_seen_39 v_stack_39 => some (v_seen_39, v_stack_39)) fu (1 : Int32) (upd v_seen_2 p1.toNatClampNeg (vp_nar .boolean (1 : Int32))) (upd v_stack (0 : Int32).toNatClampNeg p1)) else none) else none) = some (o_v_seen, o_v_stack) → Wk X { frames := 1, cells := 0, slots := 0, locals := 22 } 6 D (va_A (w_M_spread (cI := cI) (cJ := cJ) (cC := cC) (cZ := cZ) (cR := cR) a_m a_typed a_glob a_length a_allows a_permissions a_many a_sort a_piece a_onward a_open a_seen a_stack a_bytes a_star a_behind a_ends a_ruleOf a_classOf a_example a_set a_given a_kind a_finer a_leads a_stateOf a_setOf v_size v_rules v_items v_pieces v_first v_emptyOf v_classes v_sets v_states v_walker v_sort v_piece v_onward v_seen v_stack v_star) (xs X).heap.size) 0 0 (GE X D (w_M_spread (cI := cI) (cJ := cJ) (cC := cC) (cZ := cZ) (cR := cR) a_m a_typed a_glob a_length a_allows a_permissions a_many a_sort a_piece a_onward a_open a_seen a_stack a_bytes a_star a_behind a_ends a_ruleOf a_classOf a_example a_set a_given a_kind a_finer a_leads a_stateOf a_setOf v_size v_rules v_items v_pieces v_first v_emptyOf v_classes v_sets v_states v_walker v_sort v_piece v_onward v_seen v_stack v_star) (fun (o : Option Value) (w : va_W) => o = none ∧ w = w_M_spread (cI := cI) (cJ := cJ) (cC := cC) (cZ := cZ) (cR := cR) a_m a_typed a_glob a_length a_allows a_permissions a_many a_sort a_piece a_onward a_open a_seen a_stack a_bytes a_star a_behind a_ends a_ruleOf a_classOf a_example a_set a_given a_kind a_finer a_leads a_stateOf a_setOf v_size v_rules v_items v_pieces v_first v_emptyOf v_classes v_sets v_states v_walker v_sort v_piece v_onward o_v_seen o_v_stack v_star) 0 0) (w_M_spread (cI := cI) (cJ := cJ) (cC := cC) (cZ := cZ) (cR := cR) a_m a_typed a_glob a_length a_allows a_permissions a_many a_sort a_piece a_onward a_open a_seen a_stack a_bytes a_star a_behind a_ends a_ruleOf a_classOf a_example a_set a_given a_kind a_finer a_leads a_stateOf a_setOf v_size v_rules v_items v_pieces v_first v_emptyOf v_classes v_sets v_states v_walker v_sort v_piece v_onward v_seen_2 v_stack v_star) [(2, .int l2_2), (0, .ref a_m), (1, .int p1)] [] 23 := by
    intro l2_2 v_seen_2 h
    refine k_iconst C d_M_spread_23 (v := (1 : Int32)) (by decide) rfl ?_
    refine k_istore_n (lv' := [(2, .int (1 : Int32)), (0, .ref a_m), (1, .int p1)]) C d_M_spread_24 rfl (by decide) rfl rfl ?_
    refine k_aload_n C d_M_spread_25 rfl 1 rfl rfl ?_
    refine k_getf C d_M_spread_26 hin_M rfl 14 (by decide) mw20 0 rfl rfl rfl ?_
    refine k_iconst C d_M_spread_29 (v := (0 : Int32)) (by decide) rfl ?_
    refine k_iload_n C d_M_spread_30 rfl 2 rfl rfl ?_
    have g3 := gd1 h
    replace h := gd2 h
    refine k_iast (ws' := w_M_spread (cI := cI) (cJ := cJ) (cC := cC) (cZ := cZ) (cR := cR) a_m a_typed a_glob a_length a_allows a_permissions a_many a_sort a_piece a_onward a_open a_seen a_stack a_bytes a_star a_behind a_ends a_ruleOf a_classOf a_example a_set a_given a_kind a_finer a_leads a_stateOf a_setOf v_size v_rules v_items v_pieces v_first v_emptyOf v_classes v_sets v_states v_walker v_sort v_piece v_onward v_seen_2 (upd v_stack (0 : Int32).toNatClampNeg p1) v_star) C d_M_spread_31 5 0 rfl rfl (inB_in g3) rfl rfl ?_
    refine k_aload_n C d_M_spread_32 rfl 1 rfl rfl ?_
    refine k_getf C d_M_spread_33 hin_M rfl 13 (by decide) mw19 0 rfl rfl rfl ?_
    refine k_iload_n C d_M_spread_36 rfl 2 rfl rfl ?_
    refine k_iconst C d_M_spread_37 (v := (1 : Int32)) (by decide) rfl ?_
    have g4 := gd1 h
    replace h := gd2 h
    refine k_zast (ws' := w_M_spread (cI := cI) (cJ := cJ) (cC := cC) (cZ := cZ) (cR := cR) a_m a_typed a_glob a_length a_allows a_permissions a_many a_sort a_piece a_onward a_open a_seen a_stack a_bytes a_star a_behind a_ends a_ruleOf a_classOf a_example a_set a_given a_kind a_finer a_leads a_stateOf a_setOf v_size v_rules v_items v_pieces v_first v_emptyOf v_classes v_sets v_states v_walker v_sort v_piece v_onward (upd v_seen_2 p1.toNatClampNeg (vp_nar .boolean (1 : Int32))) (upd v_stack (0 : Int32).toNatClampNeg p1) v_star) C d_M_spread_38 4 3 rfl rfl (inB_in g4) rfl rfl ?_
    have X39_0 : ∀ (l2_39 : Int32) (v_seen_39 : Nat → Int32) (v_stack_39 : Nat → Int32), some (v_seen_39, v_stack_39) = some (o_v_seen, o_v_stack) → Wk X { frames := 1, cells := 0, slots := 0, locals := 22 } 6 D (va_A (w_M_spread (cI := cI) (cJ := cJ) (cC := cC) (cZ := cZ) (cR := cR) a_m a_typed a_glob a_length a_allows a_permissions a_many a_sort a_piece a_onward a_open a_seen a_stack a_bytes a_star a_behind a_ends a_ruleOf a_classOf a_example a_set a_given a_kind a_finer a_leads a_stateOf a_setOf v_size v_rules v_items v_pieces v_first v_emptyOf v_classes v_sets v_states v_walker v_sort v_piece v_onward v_seen v_stack v_star) (xs X).heap.size) 0 0 (GE X D (w_M_spread (cI := cI) (cJ := cJ) (cC := cC) (cZ := cZ) (cR := cR) a_m a_typed a_glob a_length a_allows a_permissions a_many a_sort a_piece a_onward a_open a_seen a_stack a_bytes a_star a_behind a_ends a_ruleOf a_classOf a_example a_set a_given a_kind a_finer a_leads a_stateOf a_setOf v_size v_rules v_items v_pieces v_first v_emptyOf v_classes v_sets v_states v_walker v_sort v_piece v_onward v_seen v_stack v_star) (fun (o : Option Value) (w : va_W) => o = none ∧ w = w_M_spread (cI := cI) (cJ := cJ) (cC := cC) (cZ := cZ) (cR := cR) a_m a_typed a_glob a_length a_allows a_permissions a_many a_sort a_piece a_onward a_open a_seen a_stack a_bytes a_star a_behind a_ends a_ruleOf a_classOf a_example a_set a_given a_kind a_finer a_leads a_stateOf a_setOf v_size v_rules v_items v_pieces v_first v_emptyOf v_classes v_sets v_states v_walker v_sort v_piece v_onward o_v_seen o_v_stack v_star) 0 0) (w_M_spread (cI := cI) (cJ := cJ) (cC := cC) (cZ := cZ) (cR := cR) a_m a_typed a_glob a_length a_allows a_permissions a_many a_sort a_piece a_onward a_open a_seen a_stack a_bytes a_star a_behind a_ends a_ruleOf a_classOf a_example a_set a_given a_kind a_finer a_leads a_stateOf a_setOf v_size v_rules v_items v_pieces v_first v_emptyOf v_classes v_sets v_states v_walker v_sort v_piece v_onward v_seen_39 v_stack_39 v_star) [(2, .int l2_39), (0, .ref a_m), (1, .int p1)] [] 212 := by
      intro l2_39 v_seen_39 v_stack_39 h
      exact k_vret C d_M_spread_212 (tr1 h (fun t => (fun (o : Option Value) (w : va_W) => o = none ∧ w = w_M_spread (cI := cI) (cJ := cJ) (cC := cC) (cZ := cZ) (cR := cR) a_m a_typed a_glob a_length a_allows a_permissions a_many a_sort a_piece a_onward a_open a_seen a_stack a_bytes a_star a_behind a_ends a_ruleOf a_classOf a_example a_set a_given a_kind a_finer a_leads a_stateOf a_setOf v_size v_rules v_items v_pieces v_first v_emptyOf v_classes v_sets v_states v_walker v_sort v_piece v_onward (t.1) (t.2) v_star) none (w_M_spread (cI := cI) (cJ := cJ) (cC := cC) (cZ := cZ) (cR := cR) a_m a_typed a_glob a_length a_allows a_permissions a_many a_sort a_piece a_onward a_open a_seen a_stack a_bytes a_star a_behind a_ends a_ruleOf a_classOf a_example a_set a_given a_kind a_finer a_leads a_stateOf a_setOf v_size v_rules v_items v_pieces v_first v_emptyOf v_classes v_sets v_states v_walker v_sort v_piece v_onward v_seen_39 v_stack_39 v_star)) ⟨rfl, rfl⟩)
    have L39 : ∀ (kk39_0 : Int32 → (Nat → Int32) → (Nat → Int32) → Option ((Nat → Int32) × (Nat → Int32))) (hX39_0 : ∀ (l2_39 : Int32) (v_seen_39 : Nat → Int32) (v_stack_39 : Nat → Int32), kk39_0 l2_39 v_seen_39 v_stack_39 = some (o_v_seen, o_v_stack) → Wk X { frames := 1, cells := 0, slots := 0, locals := 22 } 6 D (va_A (w_M_spread (cI := cI) (cJ := cJ) (cC := cC) (cZ := cZ) (cR := cR) a_m a_typed a_glob a_length a_allows a_permissions a_many a_sort a_piece a_onward a_open a_seen a_stack a_bytes a_star a_behind a_ends a_ruleOf a_classOf a_example a_set a_given a_kind a_finer a_leads a_stateOf a_setOf v_size v_rules v_items v_pieces v_first v_emptyOf v_classes v_sets v_states v_walker v_sort v_piece v_onward v_seen v_stack v_star) (xs X).heap.size) 0 0 (GE X D (w_M_spread (cI := cI) (cJ := cJ) (cC := cC) (cZ := cZ) (cR := cR) a_m a_typed a_glob a_length a_allows a_permissions a_many a_sort a_piece a_onward a_open a_seen a_stack a_bytes a_star a_behind a_ends a_ruleOf a_classOf a_example a_set a_given a_kind a_finer a_leads a_stateOf a_setOf v_size v_rules v_items v_pieces v_first v_emptyOf v_classes v_sets v_states v_walker v_sort v_piece v_onward v_seen v_stack v_star) (fun (o : Option Value) (w : va_W) => o = none ∧ w = w_M_spread (cI := cI) (cJ := cJ) (cC := cC) (cZ := cZ) (cR := cR) a_m a_typed a_glob a_length a_allows a_permissions a_many a_sort a_piece a_onward a_open a_seen a_stack a_bytes a_star a_behind a_ends a_ruleOf a_classOf a_example a_set a_given a_kind a_finer a_leads a_stateOf a_setOf v_size v_rules v_items v_pieces v_first v_emptyOf v_classes v_sets v_states v_walker v_sort v_piece v_onward o_v_seen o_v_stack v_star) 0 0) (w_M_spread (cI := cI) (cJ := cJ) (cC := cC) (cZ := cZ) (cR := cR) a_m a_typed a_glob a_length a_allows a_permissions a_many a_sort a_piece a_onward a_open a_seen a_stack a_bytes a_star a_behind a_ends a_ruleOf a_classOf a_example a_set a_given a_kind a_finer a_leads a_stateOf a_setOf v_size v_rules v_items v_pieces v_first v_emptyOf v_classes v_sets v_states v_walker v_sort v_piece v_onward v_seen_39 v_stack_39 v_star) [(2, .int l2_39), (0, .ref a_m), (1, .int p1)] [] 212) (n_39 : Nat) (l2_39 : Int32) (v_seen_39 : Nat → Int32) (v_stack_39 : Nat → Int32), f_M_spread_L39 v_sort v_piece v_onward v_star fu kk39_0 n_39 l2_39 v_seen_39 v_stack_39 = some (o_v_seen, o_v_stack) → Wk X { frames := 1, cells := 0, slots := 0, locals := 22 } 6 D (va_A (w_M_spread (cI := cI) (cJ := cJ) (cC := cC) (cZ := cZ) (cR := cR) a_m a_typed a_glob a_length a_allows a_permissions a_many a_sort a_piece a_onward a_open a_seen a_stack a_bytes a_star a_behind a_ends a_ruleOf a_classOf a_example a_set a_given a_kind a_finer a_leads a_stateOf a_setOf v_size v_rules v_items v_pieces v_first v_emptyOf v_classes v_sets v_states v_walker v_sort v_piece v_onward v_seen v_stack v_star) (xs X).heap.size) 0 0 (GE X D (w_M_spread (cI := cI) (cJ := cJ) (cC := cC) (cZ := cZ) (cR := cR) a_m a_typed a_glob a_length a_allows a_permissions a_many a_sort a_piece a_onward a_open a_seen a_stack a_bytes a_star a_behind a_ends a_ruleOf a_classOf a_example a_set a_given a_kind a_finer a_leads a_stateOf a_setOf v_size v_rules v_items v_pieces v_first v_emptyOf v_classes v_sets v_states v_walker v_sort v_piece v_onward v_seen v_stack v_star) (fun (o : Option Value) (w : va_W) => o = none ∧ w = w_M_spread (cI := cI) (cJ := cJ) (cC := cC) (cZ := cZ) (cR := cR) a_m a_typed a_glob a_length a_allows a_permissions a_many a_sort a_piece a_onward a_open a_seen a_stack a_bytes a_star a_behind a_ends a_ruleOf a_classOf a_example a_set a_given a_kind a_finer a_leads a_stateOf a_setOf v_size v_rules v_items v_pieces v_first v_emptyOf v_classes v_sets v_states v_walker v_sort v_piece v_onward o_v_seen o_v_stack v_star) 0 0) (w_M_spread (cI := cI) (cJ := cJ) (cC := cC) (cZ := cZ) (cR := cR) a_m a_typed a_glob a_length a_allows a_permissions a_many a_sort a_piece a_onward a_open a_seen a_stack a_bytes a_star a_behind a_ends a_ruleOf a_classOf a_example a_set a_given a_kind a_finer a_leads a_stateOf a_setOf v_size v_rules v_items v_pieces v_first v_emptyOf v_classes v_sets v_states v_walker v_sort v_piece v_onward v_seen_39 v_stack_39 v_star) [(2, .int l2_39), (0, .ref a_m), (1, .int p1)] [] 39 := by
      intro kk39_0 hX39_0 n_39
      induction n_39 with
      | zero =>
        intro l2_39 v_seen_39 v_stack_39 h
        exact nS h
      | succ n_39 ih39 =>
        intro l2_39 v_seen_39 v_stack_39 h
        replace h := (f_M_spread_L39_s _ _ _ _ _ _ _ _ _ _).symm.trans h
        have J167 : ∀ (l5_j167 : Int32) (l4_j167 : Int32) (l3_j167 : Int32) (l2_j167 : Int32) (v_seen_j167 : Nat → Int32) (v_stack_j167 : Nat → Int32), f_M_spread_J167 v_sort v_piece v_star (fun l2_39 v_seen_39 v_stack_39 => f_M_spread_L39 v_sort v_piece v_onward v_star fu kk39_0 n_39 l2_39 v_seen_39 v_stack_39) l3_j167 l2_j167 v_seen_j167 v_stack_j167 = some (o_v_seen, o_v_stack) → Wk X { frames := 1, cells := 0, slots := 0, locals := 22 } 6 D (va_A (w_M_spread (cI := cI) (cJ := cJ) (cC := cC) (cZ := cZ) (cR := cR) a_m a_typed a_glob a_length a_allows a_permissions a_many a_sort a_piece a_onward a_open a_seen a_stack a_bytes a_star a_behind a_ends a_ruleOf a_classOf a_example a_set a_given a_kind a_finer a_leads a_stateOf a_setOf v_size v_rules v_items v_pieces v_first v_emptyOf v_classes v_sets v_states v_walker v_sort v_piece v_onward v_seen v_stack v_star) (xs X).heap.size) 0 0 (GE X D (w_M_spread (cI := cI) (cJ := cJ) (cC := cC) (cZ := cZ) (cR := cR) a_m a_typed a_glob a_length a_allows a_permissions a_many a_sort a_piece a_onward a_open a_seen a_stack a_bytes a_star a_behind a_ends a_ruleOf a_classOf a_example a_set a_given a_kind a_finer a_leads a_stateOf a_setOf v_size v_rules v_items v_pieces v_first v_emptyOf v_classes v_sets v_states v_walker v_sort v_piece v_onward v_seen v_stack v_star) (fun (o : Option Value) (w : va_W) => o = none ∧ w = w_M_spread (cI := cI) (cJ := cJ) (cC := cC) (cZ := cZ) (cR := cR) a_m a_typed a_glob a_length a_allows a_permissions a_many a_sort a_piece a_onward a_open a_seen a_stack a_bytes a_star a_behind a_ends a_ruleOf a_classOf a_example a_set a_given a_kind a_finer a_leads a_stateOf a_setOf v_size v_rules v_items v_pieces v_first v_emptyOf v_classes v_sets v_states v_walker v_sort v_piece v_onward o_v_seen o_v_stack v_star) 0 0) (w_M_spread (cI := cI) (cJ := cJ) (cC := cC) (cZ := cZ) (cR := cR) a_m a_typed a_glob a_length a_allows a_permissions a_many a_sort a_piece a_onward a_open a_seen a_stack a_bytes a_star a_behind a_ends a_ruleOf a_classOf a_example a_set a_given a_kind a_finer a_leads a_stateOf a_setOf v_size v_rules v_items v_pieces v_first v_emptyOf v_classes v_sets v_states v_walker v_sort v_piece v_onward v_seen_j167 v_stack_j167 v_star) [(5, .int l5_j167), (4, .int l4_j167), (3, .int l3_j167), (2, .int l2_j167), (0, .ref a_m), (1, .int p1)] [] 167 := by
          intro l5_j167 l4_j167 l3_j167 l2_j167 v_seen_j167 v_stack_j167 h
          refine k_aload_n C d_M_spread_167 rfl 4 rfl rfl ?_
          refine k_getf C d_M_spread_168 hin_M rfl 9 (by decide) mw3 0 rfl rfl rfl ?_
          refine k_iload_n C d_M_spread_171 rfl 2 rfl rfl ?_
          have g5 := gd1 h
          replace h := gd2 h
          refine k_iald C d_M_spread_172 1 0 rfl rfl (inB_in g5) rfl ?_
          refine k_iconst C d_M_spread_173 (v := (3 : Int32)) (by decide) rfl ?_
          refine k_icmp_eq (tgt := 200) C d_M_spread_174 (by decide) rfl (fun c6 => ?_) (fun c6 => ?_)
          · replace h := gi_t h c6
            refine k_aload_n C d_M_spread_200 rfl 4 rfl rfl ?_
            refine k_iload_n C d_M_spread_201 rfl 2 rfl rfl ?_
            refine k_iconst C d_M_spread_202 (v := (1 : Int32)) (by decide) rfl ?_
            refine k_iadd C d_M_spread_203 rfl ?_
            refine k_iload_n C d_M_spread_204 rfl 3 rfl rfl ?_
            obtain ⟨⟨r7, yv_seen_8, yv_stack_9⟩, hc10, h⟩ := bd h
            refine k_callVd (As := [.int (l3_j167 + (1 : Int32)), .int l2_j167]) (st := []) (st' := [.int r7]) (wn := w_M_spread (cI := cI) (cJ := cJ) (cC := cC) (cZ := cZ) (cR := cR) a_m a_typed a_glob a_length a_allows a_permissions a_many a_sort a_piece a_onward a_open a_seen a_stack a_bytes a_star a_behind a_ends a_ruleOf a_classOf a_example a_set a_given a_kind a_finer a_leads a_stateOf a_setOf v_size v_rules v_items v_pieces v_first v_emptyOf v_classes v_sets v_states v_walker v_sort v_piece v_onward yv_seen_8 yv_stack_9 v_star) C d_M_spread_205 (c_M_mark fu a_m a_typed a_glob a_length a_allows a_permissions a_many a_sort a_piece a_onward a_open a_seen a_stack a_bytes a_star a_behind a_ends a_ruleOf a_classOf a_example a_set a_given a_kind a_finer a_leads a_stateOf a_setOf v_size v_rules v_items v_pieces v_first v_emptyOf v_classes v_sets v_states v_walker v_seen_j167 v_stack_j167 (l3_j167 + (1 : Int32)) l2_j167 r7 yv_seen_8 yv_stack_9 hc10) co_M_mark cov_M_mark mw21 0 rfl rfl (by decide) (by decide) (Nat.le_of_ble_eq_true rfl) rfl [0, 4, 5] [1, 2, 3, 6] [4, 0, 1, 2, 5, 6, 3] rfl (by decide +kernel) rfl (by decide +kernel) (by decide +kernel) rfl (by decide +kernel) rfl rfl ?_
            refine k_istore_n (lv' := [(2, .int r7), (5, .int l5_j167), (4, .int l4_j167), (3, .int l3_j167), (0, .ref a_m), (1, .int p1)]) C d_M_spread_208 rfl (by decide) rfl rfl ?_
            refine k_goto (tgt := 39) C d_M_spread_209 (by decide) ?_
            refine k_lpk [0, 4, 5] rfl ?_
            exact ih39 r7 yv_seen_8 yv_stack_9 h
          · replace h := gi_f h c6
            refine k_aload_n C d_M_spread_177 rfl 4 rfl rfl ?_
            refine k_getf C d_M_spread_178 hin_M rfl 9 (by decide) mw3 0 rfl rfl rfl ?_
            refine k_iload_n C d_M_spread_181 rfl 2 rfl rfl ?_
            have g11 := gd1 h
            replace h := gd2 h
            refine k_iald C d_M_spread_182 1 0 rfl rfl (inB_in g11) rfl ?_
            refine k_if_ne (tgt := 209) C d_M_spread_183 (by decide) rfl (fun c12 => ?_) (fun c12 => ?_)
            · replace h := gi_f h c12
              refine k_goto (tgt := 39) C d_M_spread_209 (by decide) ?_
              refine k_lpk [3, 4, 5] rfl ?_
              exact ih39 l2_j167 v_seen_j167 v_stack_j167 h
            · replace h := gi_t h c12
              refine k_aload_n C d_M_spread_186 rfl 4 rfl rfl ?_
              refine k_getf C d_M_spread_187 hin_M rfl 17 (by decide) mw9 0 rfl rfl rfl ?_
              refine k_aload_n C d_M_spread_190 rfl 4 rfl rfl ?_
              refine k_getf C d_M_spread_191 hin_M rfl 10 (by decide) mw5 0 rfl rfl rfl ?_
              refine k_iload_n C d_M_spread_194 rfl 2 rfl rfl ?_
              have g13 := gd1 h
              replace h := gd2 h
              refine k_iald C d_M_spread_195 2 0 rfl rfl (inB_in g13) rfl ?_
              have g14 := gd1 h
              replace h := gd2 h
              refine k_zald C d_M_spread_196 6 3 rfl rfl (inB_in g14) rfl ?_
              refine k_if_eq (tgt := 209) C d_M_spread_197 (by decide) rfl (fun c15 => ?_) (fun c15 => ?_)
              · replace h := gi_t h c15
                refine k_goto (tgt := 39) C d_M_spread_209 (by decide) ?_
                refine k_lpk [3, 4, 5] rfl ?_
                exact ih39 l2_j167 v_seen_j167 v_stack_j167 h
              · replace h := gi_f h c15
                refine k_aload_n C d_M_spread_200 rfl 4 rfl rfl ?_
                refine k_iload_n C d_M_spread_201 rfl 2 rfl rfl ?_
                refine k_iconst C d_M_spread_202 (v := (1 : Int32)) (by decide) rfl ?_
                refine k_iadd C d_M_spread_203 rfl ?_
                refine k_iload_n C d_M_spread_204 rfl 3 rfl rfl ?_
                obtain ⟨⟨r16, yv_seen_17, yv_stack_18⟩, hc19, h⟩ := bd h
                refine k_callVd (As := [.int (l3_j167 + (1 : Int32)), .int l2_j167]) (st := []) (st' := [.int r16]) (wn := w_M_spread (cI := cI) (cJ := cJ) (cC := cC) (cZ := cZ) (cR := cR) a_m a_typed a_glob a_length a_allows a_permissions a_many a_sort a_piece a_onward a_open a_seen a_stack a_bytes a_star a_behind a_ends a_ruleOf a_classOf a_example a_set a_given a_kind a_finer a_leads a_stateOf a_setOf v_size v_rules v_items v_pieces v_first v_emptyOf v_classes v_sets v_states v_walker v_sort v_piece v_onward yv_seen_17 yv_stack_18 v_star) C d_M_spread_205 (c_M_mark fu a_m a_typed a_glob a_length a_allows a_permissions a_many a_sort a_piece a_onward a_open a_seen a_stack a_bytes a_star a_behind a_ends a_ruleOf a_classOf a_example a_set a_given a_kind a_finer a_leads a_stateOf a_setOf v_size v_rules v_items v_pieces v_first v_emptyOf v_classes v_sets v_states v_walker v_seen_j167 v_stack_j167 (l3_j167 + (1 : Int32)) l2_j167 r16 yv_seen_17 yv_stack_18 hc19) co_M_mark cov_M_mark mw21 0 rfl rfl (by decide) (by decide) (Nat.le_of_ble_eq_true rfl) rfl [0, 4, 5] [1, 2, 3, 6] [4, 0, 1, 2, 5, 6, 3] rfl (by decide +kernel) rfl (by decide +kernel) (by decide +kernel) rfl (by decide +kernel) rfl rfl ?_
                refine k_istore_n (lv' := [(2, .int r16), (5, .int l5_j167), (4, .int l4_j167), (3, .int l3_j167), (0, .ref a_m), (1, .int p1)]) C d_M_spread_208 rfl (by decide) rfl rfl ?_
                refine k_goto (tgt := 39) C d_M_spread_209 (by decide) ?_
                refine k_lpk [0, 4, 5] rfl ?_
                exact ih39 r16 yv_seen_17 yv_stack_18 h
        have J154 : ∀ (l5_j154 : Int32) (l4_j154 : Int32) (l3_j154 : Int32) (l2_j154 : Int32) (v_seen_j154 : Nat → Int32) (v_stack_j154 : Nat → Int32), f_M_spread_J154 v_sort v_piece v_star (fun l2_39 v_seen_39 v_stack_39 => f_M_spread_L39 v_sort v_piece v_onward v_star fu kk39_0 n_39 l2_39 v_seen_39 v_stack_39) l5_j154 l3_j154 l2_j154 v_seen_j154 v_stack_j154 = some (o_v_seen, o_v_stack) → Wk X { frames := 1, cells := 0, slots := 0, locals := 22 } 6 D (va_A (w_M_spread (cI := cI) (cJ := cJ) (cC := cC) (cZ := cZ) (cR := cR) a_m a_typed a_glob a_length a_allows a_permissions a_many a_sort a_piece a_onward a_open a_seen a_stack a_bytes a_star a_behind a_ends a_ruleOf a_classOf a_example a_set a_given a_kind a_finer a_leads a_stateOf a_setOf v_size v_rules v_items v_pieces v_first v_emptyOf v_classes v_sets v_states v_walker v_sort v_piece v_onward v_seen v_stack v_star) (xs X).heap.size) 0 0 (GE X D (w_M_spread (cI := cI) (cJ := cJ) (cC := cC) (cZ := cZ) (cR := cR) a_m a_typed a_glob a_length a_allows a_permissions a_many a_sort a_piece a_onward a_open a_seen a_stack a_bytes a_star a_behind a_ends a_ruleOf a_classOf a_example a_set a_given a_kind a_finer a_leads a_stateOf a_setOf v_size v_rules v_items v_pieces v_first v_emptyOf v_classes v_sets v_states v_walker v_sort v_piece v_onward v_seen v_stack v_star) (fun (o : Option Value) (w : va_W) => o = none ∧ w = w_M_spread (cI := cI) (cJ := cJ) (cC := cC) (cZ := cZ) (cR := cR) a_m a_typed a_glob a_length a_allows a_permissions a_many a_sort a_piece a_onward a_open a_seen a_stack a_bytes a_star a_behind a_ends a_ruleOf a_classOf a_example a_set a_given a_kind a_finer a_leads a_stateOf a_setOf v_size v_rules v_items v_pieces v_first v_emptyOf v_classes v_sets v_states v_walker v_sort v_piece v_onward o_v_seen o_v_stack v_star) 0 0) (w_M_spread (cI := cI) (cJ := cJ) (cC := cC) (cZ := cZ) (cR := cR) a_m a_typed a_glob a_length a_allows a_permissions a_many a_sort a_piece a_onward a_open a_seen a_stack a_bytes a_star a_behind a_ends a_ruleOf a_classOf a_example a_set a_given a_kind a_finer a_leads a_stateOf a_setOf v_size v_rules v_items v_pieces v_first v_emptyOf v_classes v_sets v_states v_walker v_sort v_piece v_onward v_seen_j154 v_stack_j154 v_star) [(5, .int l5_j154), (4, .int l4_j154), (3, .int l3_j154), (2, .int l2_j154), (0, .ref a_m), (1, .int p1)] [] 154 := by
          intro l5_j154 l4_j154 l3_j154 l2_j154 v_seen_j154 v_stack_j154 h
          refine k_iload C d_M_spread_154 0 rfl rfl ?_
          refine k_if_lt (tgt := 167) C d_M_spread_156 (by decide) rfl (fun c20 => ?_) (fun c20 => ?_)
          · replace h := gi_t h c20
            exact J167 l5_j154 l4_j154 l3_j154 l2_j154 v_seen_j154 v_stack_j154 h
          · replace h := gi_f h c20
            refine k_aload_n C d_M_spread_159 rfl 4 rfl rfl ?_
            refine k_iload C d_M_spread_160 0 rfl rfl ?_
            refine k_iload_n C d_M_spread_162 rfl 3 rfl rfl ?_
            obtain ⟨⟨r21, yv_seen_22, yv_stack_23⟩, hc24, h⟩ := bd h
            refine k_callVd (As := [.int l5_j154, .int l2_j154]) (st := []) (st' := [.int r21]) (wn := w_M_spread (cI := cI) (cJ := cJ) (cC := cC) (cZ := cZ) (cR := cR) a_m a_typed a_glob a_length a_allows a_permissions a_many a_sort a_piece a_onward a_open a_seen a_stack a_bytes a_star a_behind a_ends a_ruleOf a_classOf a_example a_set a_given a_kind a_finer a_leads a_stateOf a_setOf v_size v_rules v_items v_pieces v_first v_emptyOf v_classes v_sets v_states v_walker v_sort v_piece v_onward yv_seen_22 yv_stack_23 v_star) C d_M_spread_163 (c_M_mark fu a_m a_typed a_glob a_length a_allows a_permissions a_many a_sort a_piece a_onward a_open a_seen a_stack a_bytes a_star a_behind a_ends a_ruleOf a_classOf a_example a_set a_given a_kind a_finer a_leads a_stateOf a_setOf v_size v_rules v_items v_pieces v_first v_emptyOf v_classes v_sets v_states v_walker v_seen_j154 v_stack_j154 l5_j154 l2_j154 r21 yv_seen_22 yv_stack_23 hc24) co_M_mark cov_M_mark mw21 0 rfl rfl (by decide) (by decide) (Nat.le_of_ble_eq_true rfl) rfl [0, 4, 5] [1, 2, 3, 6] [4, 0, 1, 2, 5, 6, 3] rfl (by decide +kernel) rfl (by decide +kernel) (by decide +kernel) rfl (by decide +kernel) rfl rfl ?_
            refine k_istore_n (lv' := [(2, .int r21), (5, .int l5_j154), (4, .int l4_j154), (3, .int l3_j154), (0, .ref a_m), (1, .int p1)]) C d_M_spread_166 rfl (by decide) rfl rfl ?_
            refine k_lpk [1, 2, 3, 0, 4, 5] rfl ?_
            exact J167 l5_j154 l4_j154 l3_j154 r21 yv_seen_22 yv_stack_23 h
        have J124 : ∀ (l4_j124 : Int32) (l3_j124 : Int32) (l2_j124 : Int32) (s0_j124 : Int32) (v_seen_j124 : Nat → Int32) (v_stack_j124 : Nat → Int32), f_M_spread_J124 v_sort v_piece v_onward v_star fu (fun l2_39 v_seen_39 v_stack_39 => f_M_spread_L39 v_sort v_piece v_onward v_star fu kk39_0 n_39 l2_39 v_seen_39 v_stack_39) l3_j124 l2_j124 s0_j124 v_seen_j124 v_stack_j124 = some (o_v_seen, o_v_stack) → Wk X { frames := 1, cells := 0, slots := 0, locals := 22 } 6 D (va_A (w_M_spread (cI := cI) (cJ := cJ) (cC := cC) (cZ := cZ) (cR := cR) a_m a_typed a_glob a_length a_allows a_permissions a_many a_sort a_piece a_onward a_open a_seen a_stack a_bytes a_star a_behind a_ends a_ruleOf a_classOf a_example a_set a_given a_kind a_finer a_leads a_stateOf a_setOf v_size v_rules v_items v_pieces v_first v_emptyOf v_classes v_sets v_states v_walker v_sort v_piece v_onward v_seen v_stack v_star) (xs X).heap.size) 0 0 (GE X D (w_M_spread (cI := cI) (cJ := cJ) (cC := cC) (cZ := cZ) (cR := cR) a_m a_typed a_glob a_length a_allows a_permissions a_many a_sort a_piece a_onward a_open a_seen a_stack a_bytes a_star a_behind a_ends a_ruleOf a_classOf a_example a_set a_given a_kind a_finer a_leads a_stateOf a_setOf v_size v_rules v_items v_pieces v_first v_emptyOf v_classes v_sets v_states v_walker v_sort v_piece v_onward v_seen v_stack v_star) (fun (o : Option Value) (w : va_W) => o = none ∧ w = w_M_spread (cI := cI) (cJ := cJ) (cC := cC) (cZ := cZ) (cR := cR) a_m a_typed a_glob a_length a_allows a_permissions a_many a_sort a_piece a_onward a_open a_seen a_stack a_bytes a_star a_behind a_ends a_ruleOf a_classOf a_example a_set a_given a_kind a_finer a_leads a_stateOf a_setOf v_size v_rules v_items v_pieces v_first v_emptyOf v_classes v_sets v_states v_walker v_sort v_piece v_onward o_v_seen o_v_stack v_star) 0 0) (w_M_spread (cI := cI) (cJ := cJ) (cC := cC) (cZ := cZ) (cR := cR) a_m a_typed a_glob a_length a_allows a_permissions a_many a_sort a_piece a_onward a_open a_seen a_stack a_bytes a_star a_behind a_ends a_ruleOf a_classOf a_example a_set a_given a_kind a_finer a_leads a_stateOf a_setOf v_size v_rules v_items v_pieces v_first v_emptyOf v_classes v_sets v_states v_walker v_sort v_piece v_onward v_seen_j124 v_stack_j124 v_star) [(4, .int l4_j124), (3, .int l3_j124), (2, .int l2_j124), (0, .ref a_m), (1, .int p1)] [.int s0_j124] 124 := by
          intro l4_j124 l3_j124 l2_j124 s0_j124 v_seen_j124 v_stack_j124 h
          refine k_istore (lv' := [(5, .int s0_j124), (4, .int l4_j124), (3, .int l3_j124), (2, .int l2_j124), (0, .ref a_m), (1, .int p1)]) C d_M_spread_124 (by decide) rfl rfl ?_
          have X126_0 : ∀ (l5_126 : Int32), (f_M_spread_J154 v_sort v_piece v_star (fun l2_39 v_seen_39 v_stack_39 => f_M_spread_L39 v_sort v_piece v_onward v_star fu kk39_0 n_39 l2_39 v_seen_39 v_stack_39) l5_126 l3_j124 l2_j124 v_seen_j124 v_stack_j124) = some (o_v_seen, o_v_stack) → Wk X { frames := 1, cells := 0, slots := 0, locals := 22 } 6 D (va_A (w_M_spread (cI := cI) (cJ := cJ) (cC := cC) (cZ := cZ) (cR := cR) a_m a_typed a_glob a_length a_allows a_permissions a_many a_sort a_piece a_onward a_open a_seen a_stack a_bytes a_star a_behind a_ends a_ruleOf a_classOf a_example a_set a_given a_kind a_finer a_leads a_stateOf a_setOf v_size v_rules v_items v_pieces v_first v_emptyOf v_classes v_sets v_states v_walker v_sort v_piece v_onward v_seen v_stack v_star) (xs X).heap.size) 0 0 (GE X D (w_M_spread (cI := cI) (cJ := cJ) (cC := cC) (cZ := cZ) (cR := cR) a_m a_typed a_glob a_length a_allows a_permissions a_many a_sort a_piece a_onward a_open a_seen a_stack a_bytes a_star a_behind a_ends a_ruleOf a_classOf a_example a_set a_given a_kind a_finer a_leads a_stateOf a_setOf v_size v_rules v_items v_pieces v_first v_emptyOf v_classes v_sets v_states v_walker v_sort v_piece v_onward v_seen v_stack v_star) (fun (o : Option Value) (w : va_W) => o = none ∧ w = w_M_spread (cI := cI) (cJ := cJ) (cC := cC) (cZ := cZ) (cR := cR) a_m a_typed a_glob a_length a_allows a_permissions a_many a_sort a_piece a_onward a_open a_seen a_stack a_bytes a_star a_behind a_ends a_ruleOf a_classOf a_example a_set a_given a_kind a_finer a_leads a_stateOf a_setOf v_size v_rules v_items v_pieces v_first v_emptyOf v_classes v_sets v_states v_walker v_sort v_piece v_onward o_v_seen o_v_stack v_star) 0 0) (w_M_spread (cI := cI) (cJ := cJ) (cC := cC) (cZ := cZ) (cR := cR) a_m a_typed a_glob a_length a_allows a_permissions a_many a_sort a_piece a_onward a_open a_seen a_stack a_bytes a_star a_behind a_ends a_ruleOf a_classOf a_example a_set a_given a_kind a_finer a_leads a_stateOf a_setOf v_size v_rules v_items v_pieces v_first v_emptyOf v_classes v_sets v_states v_walker v_sort v_piece v_onward v_seen_j124 v_stack_j124 v_star) [(5, .int l5_126), (4, .int l4_j124), (3, .int l3_j124), (2, .int l2_j124), (0, .ref a_m), (1, .int p1)] [] 154 := by
            intro l5_126 h
            exact J154 l5_126 l4_j124 l3_j124 l2_j124 v_seen_j124 v_stack_j124 h
          have L126 : ∀ (kk126_0 : Int32 → Option ((Nat → Int32) × (Nat → Int32))) (hX126_0 : ∀ (l5_126 : Int32), kk126_0 l5_126 = some (o_v_seen, o_v_stack) → Wk X { frames := 1, cells := 0, slots := 0, locals := 22 } 6 D (va_A (w_M_spread (cI := cI) (cJ := cJ) (cC := cC) (cZ := cZ) (cR := cR) a_m a_typed a_glob a_length a_allows a_permissions a_many a_sort a_piece a_onward a_open a_seen a_stack a_bytes a_star a_behind a_ends a_ruleOf a_classOf a_example a_set a_given a_kind a_finer a_leads a_stateOf a_setOf v_size v_rules v_items v_pieces v_first v_emptyOf v_classes v_sets v_states v_walker v_sort v_piece v_onward v_seen v_stack v_star) (xs X).heap.size) 0 0 (GE X D (w_M_spread (cI := cI) (cJ := cJ) (cC := cC) (cZ := cZ) (cR := cR) a_m a_typed a_glob a_length a_allows a_permissions a_many a_sort a_piece a_onward a_open a_seen a_stack a_bytes a_star a_behind a_ends a_ruleOf a_classOf a_example a_set a_given a_kind a_finer a_leads a_stateOf a_setOf v_size v_rules v_items v_pieces v_first v_emptyOf v_classes v_sets v_states v_walker v_sort v_piece v_onward v_seen v_stack v_star) (fun (o : Option Value) (w : va_W) => o = none ∧ w = w_M_spread (cI := cI) (cJ := cJ) (cC := cC) (cZ := cZ) (cR := cR) a_m a_typed a_glob a_length a_allows a_permissions a_many a_sort a_piece a_onward a_open a_seen a_stack a_bytes a_star a_behind a_ends a_ruleOf a_classOf a_example a_set a_given a_kind a_finer a_leads a_stateOf a_setOf v_size v_rules v_items v_pieces v_first v_emptyOf v_classes v_sets v_states v_walker v_sort v_piece v_onward o_v_seen o_v_stack v_star) 0 0) (w_M_spread (cI := cI) (cJ := cJ) (cC := cC) (cZ := cZ) (cR := cR) a_m a_typed a_glob a_length a_allows a_permissions a_many a_sort a_piece a_onward a_open a_seen a_stack a_bytes a_star a_behind a_ends a_ruleOf a_classOf a_example a_set a_given a_kind a_finer a_leads a_stateOf a_setOf v_size v_rules v_items v_pieces v_first v_emptyOf v_classes v_sets v_states v_walker v_sort v_piece v_onward v_seen_j124 v_stack_j124 v_star) [(5, .int l5_126), (4, .int l4_j124), (3, .int l3_j124), (2, .int l2_j124), (0, .ref a_m), (1, .int p1)] [] 154) (n_126 : Nat) (l5_126 : Int32), f_M_spread_L126 v_sort v_onward kk126_0 n_126 l5_126 = some (o_v_seen, o_v_stack) → Wk X { frames := 1, cells := 0, slots := 0, locals := 22 } 6 D (va_A (w_M_spread (cI := cI) (cJ := cJ) (cC := cC) (cZ := cZ) (cR := cR) a_m a_typed a_glob a_length a_allows a_permissions a_many a_sort a_piece a_onward a_open a_seen a_stack a_bytes a_star a_behind a_ends a_ruleOf a_classOf a_example a_set a_given a_kind a_finer a_leads a_stateOf a_setOf v_size v_rules v_items v_pieces v_first v_emptyOf v_classes v_sets v_states v_walker v_sort v_piece v_onward v_seen v_stack v_star) (xs X).heap.size) 0 0 (GE X D (w_M_spread (cI := cI) (cJ := cJ) (cC := cC) (cZ := cZ) (cR := cR) a_m a_typed a_glob a_length a_allows a_permissions a_many a_sort a_piece a_onward a_open a_seen a_stack a_bytes a_star a_behind a_ends a_ruleOf a_classOf a_example a_set a_given a_kind a_finer a_leads a_stateOf a_setOf v_size v_rules v_items v_pieces v_first v_emptyOf v_classes v_sets v_states v_walker v_sort v_piece v_onward v_seen v_stack v_star) (fun (o : Option Value) (w : va_W) => o = none ∧ w = w_M_spread (cI := cI) (cJ := cJ) (cC := cC) (cZ := cZ) (cR := cR) a_m a_typed a_glob a_length a_allows a_permissions a_many a_sort a_piece a_onward a_open a_seen a_stack a_bytes a_star a_behind a_ends a_ruleOf a_classOf a_example a_set a_given a_kind a_finer a_leads a_stateOf a_setOf v_size v_rules v_items v_pieces v_first v_emptyOf v_classes v_sets v_states v_walker v_sort v_piece v_onward o_v_seen o_v_stack v_star) 0 0) (w_M_spread (cI := cI) (cJ := cJ) (cC := cC) (cZ := cZ) (cR := cR) a_m a_typed a_glob a_length a_allows a_permissions a_many a_sort a_piece a_onward a_open a_seen a_stack a_bytes a_star a_behind a_ends a_ruleOf a_classOf a_example a_set a_given a_kind a_finer a_leads a_stateOf a_setOf v_size v_rules v_items v_pieces v_first v_emptyOf v_classes v_sets v_states v_walker v_sort v_piece v_onward v_seen_j124 v_stack_j124 v_star) [(5, .int l5_126), (4, .int l4_j124), (3, .int l3_j124), (2, .int l2_j124), (0, .ref a_m), (1, .int p1)] [] 126 := by
            intro kk126_0 hX126_0 n_126
            induction n_126 with
            | zero =>
              intro l5_126 h
              exact nS h
            | succ n_126 ih126 =>
              intro l5_126 h
              replace h := (f_M_spread_L126_s _ _ _ _ _).symm.trans h
              refine k_iload C d_M_spread_126 0 rfl rfl ?_
              refine k_if_lt (tgt := 154) C d_M_spread_128 (by decide) rfl (fun c25 => ?_) (fun c25 => ?_)
              · replace h := gi_t h c25
                exact hX126_0 l5_126 h
              · replace h := gi_f h c25
                refine k_aload_n C d_M_spread_131 rfl 4 rfl rfl ?_
                refine k_getf C d_M_spread_132 hin_M rfl 9 (by decide) mw3 0 rfl rfl rfl ?_
                refine k_iload C d_M_spread_135 0 rfl rfl ?_
                have g26 := gd1 h
                replace h := gd2 h
                refine k_iald C d_M_spread_137 1 0 rfl rfl (inB_in g26) rfl ?_
                refine k_iconst C d_M_spread_138 (v := (3 : Int32)) (by decide) rfl ?_
                refine k_icmp_eq (tgt := 154) C d_M_spread_139 (by decide) rfl (fun c27 => ?_) (fun c27 => ?_)
                · replace h := gi_t h c27
                  exact hX126_0 l5_126 h
                · replace h := gi_f h c27
                  refine k_aload_n C d_M_spread_142 rfl 4 rfl rfl ?_
                  refine k_getf C d_M_spread_143 hin_M rfl 11 (by decide) mw6 0 rfl rfl rfl ?_
                  refine k_iload C d_M_spread_146 0 rfl rfl ?_
                  have g28 := gd1 h
                  replace h := gd2 h
                  refine k_iald C d_M_spread_148 3 0 rfl rfl (inB_in g28) rfl ?_
                  refine k_istore (lv' := [(5, .int (v_onward l5_126.toNatClampNeg)), (4, .int l4_j124), (3, .int l3_j124), (2, .int l2_j124), (0, .ref a_m), (1, .int p1)]) C d_M_spread_149 (by decide) rfl rfl ?_
                  refine k_goto (tgt := 126) C d_M_spread_151 (by decide) ?_
                  exact ih126 (v_onward l5_126.toNatClampNeg) h
          exact L126 (fun l5_126 => (f_M_spread_J154 v_sort v_piece v_star (fun l2_39 v_seen_39 v_stack_39 => f_M_spread_L39 v_sort v_piece v_onward v_star fu kk39_0 n_39 l2_39 v_seen_39 v_stack_39) l5_126 l3_j124 l2_j124 v_seen_j124 v_stack_j124)) X126_0 fu s0_j124 h
        have J109 : ∀ (l4_j109 : Int32) (l3_j109 : Int32) (l2_j109 : Int32) (v_seen_j109 : Nat → Int32) (v_stack_j109 : Nat → Int32), f_M_spread_J109 v_sort v_piece v_onward v_star fu (fun l2_39 v_seen_39 v_stack_39 => f_M_spread_L39 v_sort v_piece v_onward v_star fu kk39_0 n_39 l2_39 v_seen_39 v_stack_39) l3_j109 l2_j109 v_seen_j109 v_stack_j109 = some (o_v_seen, o_v_stack) → Wk X { frames := 1, cells := 0, slots := 0, locals := 22 } 6 D (va_A (w_M_spread (cI := cI) (cJ := cJ) (cC := cC) (cZ := cZ) (cR := cR) a_m a_typed a_glob a_length a_allows a_permissions a_many a_sort a_piece a_onward a_open a_seen a_stack a_bytes a_star a_behind a_ends a_ruleOf a_classOf a_example a_set a_given a_kind a_finer a_leads a_stateOf a_setOf v_size v_rules v_items v_pieces v_first v_emptyOf v_classes v_sets v_states v_walker v_sort v_piece v_onward v_seen v_stack v_star) (xs X).heap.size) 0 0 (GE X D (w_M_spread (cI := cI) (cJ := cJ) (cC := cC) (cZ := cZ) (cR := cR) a_m a_typed a_glob a_length a_allows a_permissions a_many a_sort a_piece a_onward a_open a_seen a_stack a_bytes a_star a_behind a_ends a_ruleOf a_classOf a_example a_set a_given a_kind a_finer a_leads a_stateOf a_setOf v_size v_rules v_items v_pieces v_first v_emptyOf v_classes v_sets v_states v_walker v_sort v_piece v_onward v_seen v_stack v_star) (fun (o : Option Value) (w : va_W) => o = none ∧ w = w_M_spread (cI := cI) (cJ := cJ) (cC := cC) (cZ := cZ) (cR := cR) a_m a_typed a_glob a_length a_allows a_permissions a_many a_sort a_piece a_onward a_open a_seen a_stack a_bytes a_star a_behind a_ends a_ruleOf a_classOf a_example a_set a_given a_kind a_finer a_leads a_stateOf a_setOf v_size v_rules v_items v_pieces v_first v_emptyOf v_classes v_sets v_states v_walker v_sort v_piece v_onward o_v_seen o_v_stack v_star) 0 0) (w_M_spread (cI := cI) (cJ := cJ) (cC := cC) (cZ := cZ) (cR := cR) a_m a_typed a_glob a_length a_allows a_permissions a_many a_sort a_piece a_onward a_open a_seen a_stack a_bytes a_star a_behind a_ends a_ruleOf a_classOf a_example a_set a_given a_kind a_finer a_leads a_stateOf a_setOf v_size v_rules v_items v_pieces v_first v_emptyOf v_classes v_sets v_states v_walker v_sort v_piece v_onward v_seen_j109 v_stack_j109 v_star) [(4, .int l4_j109), (3, .int l3_j109), (2, .int l2_j109), (0, .ref a_m), (1, .int p1)] [] 109 := by
          intro l4_j109 l3_j109 l2_j109 v_seen_j109 v_stack_j109 h
          refine k_aload_n C d_M_spread_109 rfl 3 rfl rfl ?_
          refine k_getf C d_M_spread_110 hin_M rfl 9 (by decide) mw3 0 rfl rfl rfl ?_
          refine k_iload_n C d_M_spread_113 rfl 1 rfl rfl ?_
          have g29 := gd1 h
          replace h := gd2 h
          refine k_iald C d_M_spread_114 1 0 rfl rfl (inB_in g29) rfl ?_
          refine k_iconst C d_M_spread_115 (v := (2 : Int32)) (by decide) rfl ?_
          refine k_icmp_ne (tgt := 123) C d_M_spread_116 (by decide) rfl (fun c30 => ?_) (fun c30 => ?_)
          · replace h := gi_f h c30
            refine k_iconst C d_M_spread_123 (v := (-1 : Int32)) (by decide) rfl ?_
            exact J124 l4_j109 l3_j109 l2_j109 (-1 : Int32) v_seen_j109 v_stack_j109 h
          · replace h := gi_t h c30
            refine k_iload_n C d_M_spread_119 rfl 1 rfl rfl ?_
            refine k_goto (tgt := 124) C d_M_spread_120 (by decide) ?_
            exact J124 l4_j109 l3_j109 l2_j109 l3_j109 v_seen_j109 v_stack_j109 h
        have J69 : ∀ (l3_j69 : Int32) (l2_j69 : Int32) (s0_j69 : Int32) (v_seen_j69 : Nat → Int32) (v_stack_j69 : Nat → Int32), f_M_spread_J69 v_sort v_piece v_onward v_star fu (fun l2_39 v_seen_39 v_stack_39 => f_M_spread_L39 v_sort v_piece v_onward v_star fu kk39_0 n_39 l2_39 v_seen_39 v_stack_39) l3_j69 l2_j69 s0_j69 v_seen_j69 v_stack_j69 = some (o_v_seen, o_v_stack) → Wk X { frames := 1, cells := 0, slots := 0, locals := 22 } 6 D (va_A (w_M_spread (cI := cI) (cJ := cJ) (cC := cC) (cZ := cZ) (cR := cR) a_m a_typed a_glob a_length a_allows a_permissions a_many a_sort a_piece a_onward a_open a_seen a_stack a_bytes a_star a_behind a_ends a_ruleOf a_classOf a_example a_set a_given a_kind a_finer a_leads a_stateOf a_setOf v_size v_rules v_items v_pieces v_first v_emptyOf v_classes v_sets v_states v_walker v_sort v_piece v_onward v_seen v_stack v_star) (xs X).heap.size) 0 0 (GE X D (w_M_spread (cI := cI) (cJ := cJ) (cC := cC) (cZ := cZ) (cR := cR) a_m a_typed a_glob a_length a_allows a_permissions a_many a_sort a_piece a_onward a_open a_seen a_stack a_bytes a_star a_behind a_ends a_ruleOf a_classOf a_example a_set a_given a_kind a_finer a_leads a_stateOf a_setOf v_size v_rules v_items v_pieces v_first v_emptyOf v_classes v_sets v_states v_walker v_sort v_piece v_onward v_seen v_stack v_star) (fun (o : Option Value) (w : va_W) => o = none ∧ w = w_M_spread (cI := cI) (cJ := cJ) (cC := cC) (cZ := cZ) (cR := cR) a_m a_typed a_glob a_length a_allows a_permissions a_many a_sort a_piece a_onward a_open a_seen a_stack a_bytes a_star a_behind a_ends a_ruleOf a_classOf a_example a_set a_given a_kind a_finer a_leads a_stateOf a_setOf v_size v_rules v_items v_pieces v_first v_emptyOf v_classes v_sets v_states v_walker v_sort v_piece v_onward o_v_seen o_v_stack v_star) 0 0) (w_M_spread (cI := cI) (cJ := cJ) (cC := cC) (cZ := cZ) (cR := cR) a_m a_typed a_glob a_length a_allows a_permissions a_many a_sort a_piece a_onward a_open a_seen a_stack a_bytes a_star a_behind a_ends a_ruleOf a_classOf a_example a_set a_given a_kind a_finer a_leads a_stateOf a_setOf v_size v_rules v_items v_pieces v_first v_emptyOf v_classes v_sets v_states v_walker v_sort v_piece v_onward v_seen_j69 v_stack_j69 v_star) [(3, .int l3_j69), (2, .int l2_j69), (0, .ref a_m), (1, .int p1)] [.int s0_j69] 69 := by
          intro l3_j69 l2_j69 s0_j69 v_seen_j69 v_stack_j69 h
          refine k_istore (lv' := [(4, .int s0_j69), (3, .int l3_j69), (2, .int l2_j69), (0, .ref a_m), (1, .int p1)]) C d_M_spread_69 (by decide) rfl rfl ?_
          have X71_0 : ∀ (l4_71 : Int32) (l2_71 : Int32) (v_seen_71 : Nat → Int32) (v_stack_71 : Nat → Int32), (f_M_spread_J109 v_sort v_piece v_onward v_star fu (fun l2_39 v_seen_39 v_stack_39 => f_M_spread_L39 v_sort v_piece v_onward v_star fu kk39_0 n_39 l2_39 v_seen_39 v_stack_39) l3_j69 l2_71 v_seen_71 v_stack_71) = some (o_v_seen, o_v_stack) → Wk X { frames := 1, cells := 0, slots := 0, locals := 22 } 6 D (va_A (w_M_spread (cI := cI) (cJ := cJ) (cC := cC) (cZ := cZ) (cR := cR) a_m a_typed a_glob a_length a_allows a_permissions a_many a_sort a_piece a_onward a_open a_seen a_stack a_bytes a_star a_behind a_ends a_ruleOf a_classOf a_example a_set a_given a_kind a_finer a_leads a_stateOf a_setOf v_size v_rules v_items v_pieces v_first v_emptyOf v_classes v_sets v_states v_walker v_sort v_piece v_onward v_seen v_stack v_star) (xs X).heap.size) 0 0 (GE X D (w_M_spread (cI := cI) (cJ := cJ) (cC := cC) (cZ := cZ) (cR := cR) a_m a_typed a_glob a_length a_allows a_permissions a_many a_sort a_piece a_onward a_open a_seen a_stack a_bytes a_star a_behind a_ends a_ruleOf a_classOf a_example a_set a_given a_kind a_finer a_leads a_stateOf a_setOf v_size v_rules v_items v_pieces v_first v_emptyOf v_classes v_sets v_states v_walker v_sort v_piece v_onward v_seen v_stack v_star) (fun (o : Option Value) (w : va_W) => o = none ∧ w = w_M_spread (cI := cI) (cJ := cJ) (cC := cC) (cZ := cZ) (cR := cR) a_m a_typed a_glob a_length a_allows a_permissions a_many a_sort a_piece a_onward a_open a_seen a_stack a_bytes a_star a_behind a_ends a_ruleOf a_classOf a_example a_set a_given a_kind a_finer a_leads a_stateOf a_setOf v_size v_rules v_items v_pieces v_first v_emptyOf v_classes v_sets v_states v_walker v_sort v_piece v_onward o_v_seen o_v_stack v_star) 0 0) (w_M_spread (cI := cI) (cJ := cJ) (cC := cC) (cZ := cZ) (cR := cR) a_m a_typed a_glob a_length a_allows a_permissions a_many a_sort a_piece a_onward a_open a_seen a_stack a_bytes a_star a_behind a_ends a_ruleOf a_classOf a_example a_set a_given a_kind a_finer a_leads a_stateOf a_setOf v_size v_rules v_items v_pieces v_first v_emptyOf v_classes v_sets v_states v_walker v_sort v_piece v_onward v_seen_71 v_stack_71 v_star) [(4, .int l4_71), (3, .int l3_j69), (2, .int l2_71), (0, .ref a_m), (1, .int p1)] [] 109 := by
            intro l4_71 l2_71 v_seen_71 v_stack_71 h
            exact J109 l4_71 l3_j69 l2_71 v_seen_71 v_stack_71 h
          have L71 : ∀ (kk71_0 : Int32 → Int32 → (Nat → Int32) → (Nat → Int32) → Option ((Nat → Int32) × (Nat → Int32))) (hX71_0 : ∀ (l4_71 : Int32) (l2_71 : Int32) (v_seen_71 : Nat → Int32) (v_stack_71 : Nat → Int32), kk71_0 l4_71 l2_71 v_seen_71 v_stack_71 = some (o_v_seen, o_v_stack) → Wk X { frames := 1, cells := 0, slots := 0, locals := 22 } 6 D (va_A (w_M_spread (cI := cI) (cJ := cJ) (cC := cC) (cZ := cZ) (cR := cR) a_m a_typed a_glob a_length a_allows a_permissions a_many a_sort a_piece a_onward a_open a_seen a_stack a_bytes a_star a_behind a_ends a_ruleOf a_classOf a_example a_set a_given a_kind a_finer a_leads a_stateOf a_setOf v_size v_rules v_items v_pieces v_first v_emptyOf v_classes v_sets v_states v_walker v_sort v_piece v_onward v_seen v_stack v_star) (xs X).heap.size) 0 0 (GE X D (w_M_spread (cI := cI) (cJ := cJ) (cC := cC) (cZ := cZ) (cR := cR) a_m a_typed a_glob a_length a_allows a_permissions a_many a_sort a_piece a_onward a_open a_seen a_stack a_bytes a_star a_behind a_ends a_ruleOf a_classOf a_example a_set a_given a_kind a_finer a_leads a_stateOf a_setOf v_size v_rules v_items v_pieces v_first v_emptyOf v_classes v_sets v_states v_walker v_sort v_piece v_onward v_seen v_stack v_star) (fun (o : Option Value) (w : va_W) => o = none ∧ w = w_M_spread (cI := cI) (cJ := cJ) (cC := cC) (cZ := cZ) (cR := cR) a_m a_typed a_glob a_length a_allows a_permissions a_many a_sort a_piece a_onward a_open a_seen a_stack a_bytes a_star a_behind a_ends a_ruleOf a_classOf a_example a_set a_given a_kind a_finer a_leads a_stateOf a_setOf v_size v_rules v_items v_pieces v_first v_emptyOf v_classes v_sets v_states v_walker v_sort v_piece v_onward o_v_seen o_v_stack v_star) 0 0) (w_M_spread (cI := cI) (cJ := cJ) (cC := cC) (cZ := cZ) (cR := cR) a_m a_typed a_glob a_length a_allows a_permissions a_many a_sort a_piece a_onward a_open a_seen a_stack a_bytes a_star a_behind a_ends a_ruleOf a_classOf a_example a_set a_given a_kind a_finer a_leads a_stateOf a_setOf v_size v_rules v_items v_pieces v_first v_emptyOf v_classes v_sets v_states v_walker v_sort v_piece v_onward v_seen_71 v_stack_71 v_star) [(4, .int l4_71), (3, .int l3_j69), (2, .int l2_71), (0, .ref a_m), (1, .int p1)] [] 109) (n_71 : Nat) (l4_71 : Int32) (l2_71 : Int32) (v_seen_71 : Nat → Int32) (v_stack_71 : Nat → Int32), f_M_spread_L71 v_sort v_onward kk71_0 n_71 l4_71 l2_71 v_seen_71 v_stack_71 = some (o_v_seen, o_v_stack) → Wk X { frames := 1, cells := 0, slots := 0, locals := 22 } 6 D (va_A (w_M_spread (cI := cI) (cJ := cJ) (cC := cC) (cZ := cZ) (cR := cR) a_m a_typed a_glob a_length a_allows a_permissions a_many a_sort a_piece a_onward a_open a_seen a_stack a_bytes a_star a_behind a_ends a_ruleOf a_classOf a_example a_set a_given a_kind a_finer a_leads a_stateOf a_setOf v_size v_rules v_items v_pieces v_first v_emptyOf v_classes v_sets v_states v_walker v_sort v_piece v_onward v_seen v_stack v_star) (xs X).heap.size) 0 0 (GE X D (w_M_spread (cI := cI) (cJ := cJ) (cC := cC) (cZ := cZ) (cR := cR) a_m a_typed a_glob a_length a_allows a_permissions a_many a_sort a_piece a_onward a_open a_seen a_stack a_bytes a_star a_behind a_ends a_ruleOf a_classOf a_example a_set a_given a_kind a_finer a_leads a_stateOf a_setOf v_size v_rules v_items v_pieces v_first v_emptyOf v_classes v_sets v_states v_walker v_sort v_piece v_onward v_seen v_stack v_star) (fun (o : Option Value) (w : va_W) => o = none ∧ w = w_M_spread (cI := cI) (cJ := cJ) (cC := cC) (cZ := cZ) (cR := cR) a_m a_typed a_glob a_length a_allows a_permissions a_many a_sort a_piece a_onward a_open a_seen a_stack a_bytes a_star a_behind a_ends a_ruleOf a_classOf a_example a_set a_given a_kind a_finer a_leads a_stateOf a_setOf v_size v_rules v_items v_pieces v_first v_emptyOf v_classes v_sets v_states v_walker v_sort v_piece v_onward o_v_seen o_v_stack v_star) 0 0) (w_M_spread (cI := cI) (cJ := cJ) (cC := cC) (cZ := cZ) (cR := cR) a_m a_typed a_glob a_length a_allows a_permissions a_many a_sort a_piece a_onward a_open a_seen a_stack a_bytes a_star a_behind a_ends a_ruleOf a_classOf a_example a_set a_given a_kind a_finer a_leads a_stateOf a_setOf v_size v_rules v_items v_pieces v_first v_emptyOf v_classes v_sets v_states v_walker v_sort v_piece v_onward v_seen_71 v_stack_71 v_star) [(4, .int l4_71), (3, .int l3_j69), (2, .int l2_71), (0, .ref a_m), (1, .int p1)] [] 71 := by
            intro kk71_0 hX71_0 n_71
            induction n_71 with
            | zero =>
              intro l4_71 l2_71 v_seen_71 v_stack_71 h
              exact nS h
            | succ n_71 ih71 =>
              intro l4_71 l2_71 v_seen_71 v_stack_71 h
              replace h := (f_M_spread_L71_s _ _ _ _ _ _ _ _).symm.trans h
              refine k_iload C d_M_spread_71 0 rfl rfl ?_
              refine k_if_lt (tgt := 109) C d_M_spread_73 (by decide) rfl (fun c31 => ?_) (fun c31 => ?_)
              · replace h := gi_t h c31
                exact hX71_0 l4_71 l2_71 v_seen_71 v_stack_71 h
              · replace h := gi_f h c31
                refine k_aload_n C d_M_spread_76 rfl 3 rfl rfl ?_
                refine k_getf C d_M_spread_77 hin_M rfl 9 (by decide) mw3 0 rfl rfl rfl ?_
                refine k_iload C d_M_spread_80 0 rfl rfl ?_
                have g32 := gd1 h
                replace h := gd2 h
                refine k_iald C d_M_spread_82 1 0 rfl rfl (inB_in g32) rfl ?_
                refine k_iconst C d_M_spread_83 (v := (3 : Int32)) (by decide) rfl ?_
                refine k_icmp_eq (tgt := 109) C d_M_spread_84 (by decide) rfl (fun c33 => ?_) (fun c33 => ?_)
                · replace h := gi_t h c33
                  exact hX71_0 l4_71 l2_71 v_seen_71 v_stack_71 h
                · replace h := gi_f h c33
                  refine k_aload_n C d_M_spread_87 rfl 3 rfl rfl ?_
                  refine k_iload C d_M_spread_88 0 rfl rfl ?_
                  refine k_iconst C d_M_spread_90 (v := (1 : Int32)) (by decide) rfl ?_
                  refine k_iadd C d_M_spread_91 rfl ?_
                  refine k_iload_n C d_M_spread_92 rfl 2 rfl rfl ?_
                  obtain ⟨⟨r34, yv_seen_35, yv_stack_36⟩, hc37, h⟩ := bd h
                  refine k_callVd (As := [.int (l4_71 + (1 : Int32)), .int l2_71]) (st := []) (st' := [.int r34]) (wn := w_M_spread (cI := cI) (cJ := cJ) (cC := cC) (cZ := cZ) (cR := cR) a_m a_typed a_glob a_length a_allows a_permissions a_many a_sort a_piece a_onward a_open a_seen a_stack a_bytes a_star a_behind a_ends a_ruleOf a_classOf a_example a_set a_given a_kind a_finer a_leads a_stateOf a_setOf v_size v_rules v_items v_pieces v_first v_emptyOf v_classes v_sets v_states v_walker v_sort v_piece v_onward yv_seen_35 yv_stack_36 v_star) C d_M_spread_93 (c_M_mark fu a_m a_typed a_glob a_length a_allows a_permissions a_many a_sort a_piece a_onward a_open a_seen a_stack a_bytes a_star a_behind a_ends a_ruleOf a_classOf a_example a_set a_given a_kind a_finer a_leads a_stateOf a_setOf v_size v_rules v_items v_pieces v_first v_emptyOf v_classes v_sets v_states v_walker v_seen_71 v_stack_71 (l4_71 + (1 : Int32)) l2_71 r34 yv_seen_35 yv_stack_36 hc37) co_M_mark cov_M_mark mw21 0 rfl rfl (by decide) (by decide) (Nat.le_of_ble_eq_true rfl) rfl [0, 4, 5] [1, 2, 3, 6] [4, 0, 1, 2, 5, 6, 3] rfl (by decide +kernel) rfl (by decide +kernel) (by decide +kernel) rfl (by decide +kernel) rfl rfl ?_
                  refine k_istore_n (lv' := [(2, .int r34), (4, .int l4_71), (3, .int l3_j69), (0, .ref a_m), (1, .int p1)]) C d_M_spread_96 rfl (by decide) rfl rfl ?_
                  refine k_aload_n C d_M_spread_97 rfl 3 rfl rfl ?_
                  refine k_getf C d_M_spread_98 hin_M rfl 11 (by decide) mw6 0 rfl rfl rfl ?_
                  refine k_iload C d_M_spread_101 1 rfl rfl ?_
                  have g38 := gd1 h
                  replace h := gd2 h
                  refine k_iald C d_M_spread_103 3 0 rfl rfl (inB_in g38) rfl ?_
                  refine k_istore (lv' := [(4, .int (v_onward l4_71.toNatClampNeg)), (2, .int r34), (3, .int l3_j69), (0, .ref a_m), (1, .int p1)]) C d_M_spread_104 (by decide) rfl rfl ?_
                  refine k_goto (tgt := 71) C d_M_spread_106 (by decide) ?_
                  refine k_lpk [0, 2, 1, 3, 4] rfl ?_
                  exact ih71 (v_onward l4_71.toNatClampNeg) r34 yv_seen_35 yv_stack_36 h
          exact L71 (fun l4_71 l2_71 v_seen_71 v_stack_71 => (f_M_spread_J109 v_sort v_piece v_onward v_star fu (fun l2_39 v_seen_39 v_stack_39 => f_M_spread_L39 v_sort v_piece v_onward v_star fu kk39_0 n_39 l2_39 v_seen_39 v_stack_39) l3_j69 l2_71 v_seen_71 v_stack_71)) X71_0 fu s0_j69 l2_j69 v_seen_j69 v_stack_j69 h
        refine k_iload_n C d_M_spread_39 rfl 0 rfl rfl ?_
        refine k_if_le (tgt := 212) C d_M_spread_40 (by decide) rfl (fun c39 => ?_) (fun c39 => ?_)
        · replace h := gi_t h c39
          exact hX39_0 l2_39 v_seen_39 v_stack_39 h
        · replace h := gi_f h c39
          refine k_iload_n C d_M_spread_43 rfl 0 rfl rfl ?_
          refine k_iconst C d_M_spread_44 (v := (1 : Int32)) (by decide) rfl ?_
          refine k_isub C d_M_spread_45 rfl ?_
          refine k_istore_n (lv' := [(2, .int (l2_39 - (1 : Int32))), (0, .ref a_m), (1, .int p1)]) C d_M_spread_46 rfl (by decide) rfl rfl ?_
          refine k_aload_n C d_M_spread_47 rfl 1 rfl rfl ?_
          refine k_getf C d_M_spread_48 hin_M rfl 14 (by decide) mw20 0 rfl rfl rfl ?_
          refine k_iload_n C d_M_spread_51 rfl 0 rfl rfl ?_
          have g40 := gd1 h
          replace h := gd2 h
          refine k_iald C d_M_spread_52 5 0 rfl rfl (inB_in g40) rfl ?_
          refine k_istore_n (lv' := [(3, .int (v_stack_39 (l2_39 - (1 : Int32)).toNatClampNeg)), (2, .int (l2_39 - (1 : Int32))), (0, .ref a_m), (1, .int p1)]) C d_M_spread_53 rfl (by decide) rfl rfl ?_
          refine k_aload_n C d_M_spread_54 rfl 2 rfl rfl ?_
          refine k_getf C d_M_spread_55 hin_M rfl 9 (by decide) mw3 0 rfl rfl rfl ?_
          refine k_iload_n C d_M_spread_58 rfl 0 rfl rfl ?_
          have g41 := gd1 h
          replace h := gd2 h
          refine k_iald C d_M_spread_59 1 0 rfl rfl (inB_in g41) rfl ?_
          refine k_iconst C d_M_spread_60 (v := (1 : Int32)) (by decide) rfl ?_
          refine k_icmp_ne (tgt := 68) C d_M_spread_61 (by decide) rfl (fun c42 => ?_) (fun c42 => ?_)
          · replace h := gi_f h c42
            refine k_iconst C d_M_spread_68 (v := (-1 : Int32)) (by decide) rfl ?_
            exact J69 (v_stack_39 (l2_39 - (1 : Int32)).toNatClampNeg) (l2_39 - (1 : Int32)) (-1 : Int32) v_seen_39 v_stack_39 h
          · replace h := gi_t h c42
            refine k_iload_n C d_M_spread_64 rfl 0 rfl rfl ?_
            refine k_goto (tgt := 69) C d_M_spread_65 (by decide) ?_
            exact J69 (v_stack_39 (l2_39 - (1 : Int32)).toNatClampNeg) (l2_39 - (1 : Int32)) (v_stack_39 (l2_39 - (1 : Int32)).toNatClampNeg) v_seen_39 v_stack_39 h
    exact L39 (fun l2_39 v_seen_39 v_stack_39 => some (v_seen_39, v_stack_39)) X39_0 fu (1 : Int32) (upd v_seen_2 p1.toNatClampNeg (vp_nar .boolean (1 : Int32))) (upd v_stack (0 : Int32).toNatClampNeg p1) h
  have L2 : ∀ (kk2_0 : Int32 → (Nat → Int32) → Option ((Nat → Int32) × (Nat → Int32))) (hX2_0 : ∀ (l2_2 : Int32) (v_seen_2 : Nat → Int32), kk2_0 l2_2 v_seen_2 = some (o_v_seen, o_v_stack) → Wk X { frames := 1, cells := 0, slots := 0, locals := 22 } 6 D (va_A (w_M_spread (cI := cI) (cJ := cJ) (cC := cC) (cZ := cZ) (cR := cR) a_m a_typed a_glob a_length a_allows a_permissions a_many a_sort a_piece a_onward a_open a_seen a_stack a_bytes a_star a_behind a_ends a_ruleOf a_classOf a_example a_set a_given a_kind a_finer a_leads a_stateOf a_setOf v_size v_rules v_items v_pieces v_first v_emptyOf v_classes v_sets v_states v_walker v_sort v_piece v_onward v_seen v_stack v_star) (xs X).heap.size) 0 0 (GE X D (w_M_spread (cI := cI) (cJ := cJ) (cC := cC) (cZ := cZ) (cR := cR) a_m a_typed a_glob a_length a_allows a_permissions a_many a_sort a_piece a_onward a_open a_seen a_stack a_bytes a_star a_behind a_ends a_ruleOf a_classOf a_example a_set a_given a_kind a_finer a_leads a_stateOf a_setOf v_size v_rules v_items v_pieces v_first v_emptyOf v_classes v_sets v_states v_walker v_sort v_piece v_onward v_seen v_stack v_star) (fun (o : Option Value) (w : va_W) => o = none ∧ w = w_M_spread (cI := cI) (cJ := cJ) (cC := cC) (cZ := cZ) (cR := cR) a_m a_typed a_glob a_length a_allows a_permissions a_many a_sort a_piece a_onward a_open a_seen a_stack a_bytes a_star a_behind a_ends a_ruleOf a_classOf a_example a_set a_given a_kind a_finer a_leads a_stateOf a_setOf v_size v_rules v_items v_pieces v_first v_emptyOf v_classes v_sets v_states v_walker v_sort v_piece v_onward o_v_seen o_v_stack v_star) 0 0) (w_M_spread (cI := cI) (cJ := cJ) (cC := cC) (cZ := cZ) (cR := cR) a_m a_typed a_glob a_length a_allows a_permissions a_many a_sort a_piece a_onward a_open a_seen a_stack a_bytes a_star a_behind a_ends a_ruleOf a_classOf a_example a_set a_given a_kind a_finer a_leads a_stateOf a_setOf v_size v_rules v_items v_pieces v_first v_emptyOf v_classes v_sets v_states v_walker v_sort v_piece v_onward v_seen_2 v_stack v_star) [(2, .int l2_2), (0, .ref a_m), (1, .int p1)] [] 23) (n_2 : Nat) (l2_2 : Int32) (v_seen_2 : Nat → Int32), f_M_spread_L2 v_items kk2_0 n_2 l2_2 v_seen_2 = some (o_v_seen, o_v_stack) → Wk X { frames := 1, cells := 0, slots := 0, locals := 22 } 6 D (va_A (w_M_spread (cI := cI) (cJ := cJ) (cC := cC) (cZ := cZ) (cR := cR) a_m a_typed a_glob a_length a_allows a_permissions a_many a_sort a_piece a_onward a_open a_seen a_stack a_bytes a_star a_behind a_ends a_ruleOf a_classOf a_example a_set a_given a_kind a_finer a_leads a_stateOf a_setOf v_size v_rules v_items v_pieces v_first v_emptyOf v_classes v_sets v_states v_walker v_sort v_piece v_onward v_seen v_stack v_star) (xs X).heap.size) 0 0 (GE X D (w_M_spread (cI := cI) (cJ := cJ) (cC := cC) (cZ := cZ) (cR := cR) a_m a_typed a_glob a_length a_allows a_permissions a_many a_sort a_piece a_onward a_open a_seen a_stack a_bytes a_star a_behind a_ends a_ruleOf a_classOf a_example a_set a_given a_kind a_finer a_leads a_stateOf a_setOf v_size v_rules v_items v_pieces v_first v_emptyOf v_classes v_sets v_states v_walker v_sort v_piece v_onward v_seen v_stack v_star) (fun (o : Option Value) (w : va_W) => o = none ∧ w = w_M_spread (cI := cI) (cJ := cJ) (cC := cC) (cZ := cZ) (cR := cR) a_m a_typed a_glob a_length a_allows a_permissions a_many a_sort a_piece a_onward a_open a_seen a_stack a_bytes a_star a_behind a_ends a_ruleOf a_classOf a_example a_set a_given a_kind a_finer a_leads a_stateOf a_setOf v_size v_rules v_items v_pieces v_first v_emptyOf v_classes v_sets v_states v_walker v_sort v_piece v_onward o_v_seen o_v_stack v_star) 0 0) (w_M_spread (cI := cI) (cJ := cJ) (cC := cC) (cZ := cZ) (cR := cR) a_m a_typed a_glob a_length a_allows a_permissions a_many a_sort a_piece a_onward a_open a_seen a_stack a_bytes a_star a_behind a_ends a_ruleOf a_classOf a_example a_set a_given a_kind a_finer a_leads a_stateOf a_setOf v_size v_rules v_items v_pieces v_first v_emptyOf v_classes v_sets v_states v_walker v_sort v_piece v_onward v_seen_2 v_stack v_star) [(2, .int l2_2), (0, .ref a_m), (1, .int p1)] [] 2 := by
    intro kk2_0 hX2_0 n_2
    induction n_2 with
    | zero =>
      intro l2_2 v_seen_2 h
      exact nS h
    | succ n_2 ih2 =>
      intro l2_2 v_seen_2 h
      replace h := (f_M_spread_L2_s _ _ _ _ _).symm.trans h
      refine k_iload_n C d_M_spread_2 rfl 0 rfl rfl ?_
      refine k_aload_n C d_M_spread_3 rfl 1 rfl rfl ?_
      refine k_getf C d_M_spread_4 hin_M rfl 8 (by decide) mw4 0 rfl rfl rfl ?_
      refine k_icmp_ge (tgt := 23) C d_M_spread_7 (by decide) rfl (fun c1 => ?_) (fun c1 => ?_)
      · replace h := gi_t h c1
        exact hX2_0 l2_2 v_seen_2 h
      · replace h := gi_f h c1
        refine k_aload_n C d_M_spread_10 rfl 1 rfl rfl ?_
        refine k_getf C d_M_spread_11 hin_M rfl 13 (by decide) mw19 0 rfl rfl rfl ?_
        refine k_iload_n C d_M_spread_14 rfl 0 rfl rfl ?_
        refine k_iconst C d_M_spread_15 (v := (0 : Int32)) (by decide) rfl ?_
        have g2 := gd1 h
        replace h := gd2 h
        refine k_zast (ws' := w_M_spread (cI := cI) (cJ := cJ) (cC := cC) (cZ := cZ) (cR := cR) a_m a_typed a_glob a_length a_allows a_permissions a_many a_sort a_piece a_onward a_open a_seen a_stack a_bytes a_star a_behind a_ends a_ruleOf a_classOf a_example a_set a_given a_kind a_finer a_leads a_stateOf a_setOf v_size v_rules v_items v_pieces v_first v_emptyOf v_classes v_sets v_states v_walker v_sort v_piece v_onward (upd v_seen_2 l2_2.toNatClampNeg (vp_nar .boolean (0 : Int32))) v_stack v_star) C d_M_spread_16 4 3 rfl rfl (inB_in g2) rfl rfl ?_
        refine k_iinc (lv' := [(2, .int (l2_2 + 1)), (0, .ref a_m), (1, .int p1)]) C d_M_spread_17 0 rfl rfl (by decide) rfl rfl ?_
        refine k_goto (tgt := 2) C d_M_spread_20 (by decide) ?_
        exact ih2 (l2_2 + 1) (upd v_seen_2 l2_2.toNatClampNeg (vp_nar .boolean (0 : Int32))) h
  exact L2 (fun l2_2 v_seen_2 => (if inB (0 : Int32) 42 = true then (if inB p1 42 = true then (f_M_spread_L39 v_sort v_piece v_onward v_star fu (fun l2_39 v_seen_39 v_stack_39 => some (v_seen_39, v_stack_39)) fu (1 : Int32) (upd v_seen_2 p1.toNatClampNeg (vp_nar .boolean (1 : Int32))) (upd v_stack (0 : Int32).toNatClampNeg p1)) else none) else none)) X2_0 fu (0 : Int32) v_seen h
theorem d_M_marked_0 : decode b_M_marked 0 = .ok (.lconst 0, 1) := by decide +kernel
theorem d_M_marked_1 : decode b_M_marked 1 = .ok (.lstore_n 1, 1) := by decide +kernel
theorem d_M_marked_2 : decode b_M_marked 2 = .ok (.iconst 0, 1) := by decide +kernel
theorem d_M_marked_3 : decode b_M_marked 3 = .ok (.istore_n 3, 1) := by decide +kernel
theorem d_M_marked_4 : decode b_M_marked 4 = .ok (.iload_n 3, 1) := by decide +kernel
theorem d_M_marked_5 : decode b_M_marked 5 = .ok (.aload_n 0, 1) := by decide +kernel
theorem d_M_marked_6 : decode b_M_marked 6 = .ok (.getfield 98, 3) := by decide +kernel
theorem d_M_marked_9 : decode b_M_marked 9 = .ok (.if_icmp .ge 42, 3) := by decide +kernel
theorem d_M_marked_12 : decode b_M_marked 12 = .ok (.aload_n 0, 1) := by decide +kernel
theorem d_M_marked_13 : decode b_M_marked 13 = .ok (.getfield 41, 3) := by decide +kernel
theorem d_M_marked_16 : decode b_M_marked 16 = .ok (.iload_n 3, 1) := by decide +kernel
theorem d_M_marked_17 : decode b_M_marked 17 = .ok (.baload, 1) := by decide +kernel
theorem d_M_marked_18 : decode b_M_marked 18 = .ok (.ifCond .eq 25, 3) := by decide +kernel
theorem d_M_marked_21 : decode b_M_marked 21 = .ok (.aload_n 0, 1) := by decide +kernel
theorem d_M_marked_22 : decode b_M_marked 22 = .ok (.getfield 29, 3) := by decide +kernel
theorem d_M_marked_25 : decode b_M_marked 25 = .ok (.iload_n 3, 1) := by decide +kernel
theorem d_M_marked_26 : decode b_M_marked 26 = .ok (.iaload, 1) := by decide +kernel
theorem d_M_marked_27 : decode b_M_marked 27 = .ok (.ifCond .ne 16, 3) := by decide +kernel
theorem d_M_marked_30 : decode b_M_marked 30 = .ok (.lload_n 1, 1) := by decide +kernel
theorem d_M_marked_31 : decode b_M_marked 31 = .ok (.lconst 1, 1) := by decide +kernel
theorem d_M_marked_32 : decode b_M_marked 32 = .ok (.aload_n 0, 1) := by decide +kernel
theorem d_M_marked_33 : decode b_M_marked 33 = .ok (.getfield 32, 3) := by decide +kernel
theorem d_M_marked_36 : decode b_M_marked 36 = .ok (.iload_n 3, 1) := by decide +kernel
theorem d_M_marked_37 : decode b_M_marked 37 = .ok (.iaload, 1) := by decide +kernel
theorem d_M_marked_38 : decode b_M_marked 38 = .ok (.lshl, 1) := by decide +kernel
theorem d_M_marked_39 : decode b_M_marked 39 = .ok (.lor, 1) := by decide +kernel
theorem d_M_marked_40 : decode b_M_marked 40 = .ok (.goto 4, 3) := by decide +kernel
theorem d_M_marked_43 : decode b_M_marked 43 = .ok (.lload_n 1, 1) := by decide +kernel
theorem d_M_marked_44 : decode b_M_marked 44 = .ok (.lstore_n 1, 1) := by decide +kernel
theorem d_M_marked_45 : decode b_M_marked 45 = .ok (.iinc 3 1, 3) := by decide +kernel
theorem d_M_marked_48 : decode b_M_marked 48 = .ok (.goto (-44), 3) := by decide +kernel
theorem d_M_marked_51 : decode b_M_marked 51 = .ok (.lload_n 1, 1) := by decide +kernel
theorem d_M_marked_52 : decode b_M_marked 52 = .ok (.lreturn, 1) := by decide +kernel
abbrev w_M_marked {cI cJ cC cZ cR : ClassId} (a_m a_typed a_glob a_length a_allows a_permissions a_many a_sort a_piece a_onward a_open a_seen a_stack a_bytes a_star a_behind a_ends a_ruleOf a_classOf a_example a_set a_given a_kind a_finer a_leads a_stateOf a_setOf : Nat) (v_size : Int32) (v_rules : Int32) (v_items : Int32) (v_pieces : Int32) (v_first : Int64) (v_emptyOf : Int32) (v_classes : Int32) (v_sets : Int32) (v_states : Int32) (v_walker : Int32) (v_sort : Nat → Int32) (v_piece : Nat → Int32) (v_seen : Nat → Int32) : va_W := [(a_m, .inr (8, [.ref a_typed, .int v_size, .int v_rules, .ref a_glob, .ref a_length, .ref a_allows, .ref a_permissions, .ref a_many, .int v_items, .ref a_sort, .ref a_piece, .ref a_onward, .ref a_open, .ref a_seen, .ref a_stack, .int v_pieces, .ref a_bytes, .ref a_star, .ref a_behind, .ref a_ends, .ref a_ruleOf, .long v_first, .int v_emptyOf, .int v_classes, .ref a_classOf, .ref a_example, .int v_sets, .ref a_set, .ref a_given, .ref a_kind, .ref a_finer, .ref a_leads, .int v_states, .ref a_stateOf, .ref a_setOf, .int v_walker])), (a_sort, .inl (cI, 42, .inl v_sort)), (a_piece, .inl (cI, 42, .inl v_piece)), (a_seen, .inl (cZ, 42, .inl v_seen))]
def f_M_marked_L4 (v_items : Int32) (v_sort : Nat → Int32) (v_piece : Nat → Int32) (v_seen : Nat → Int32) (kk4_0 : Int32 → Int64 → Option (Int64)) : Nat → Int32 → Int64 → Option (Int64)
  | 0, _, _ => none
  | n_4 + 1, l3_4, l1_4 => (if v_items ≤ l3_4 then (kk4_0 l3_4 l1_4) else (if inB l3_4 42 = true then (if (v_seen l3_4.toNatClampNeg) = 0 then (f_M_marked_L4 v_items v_sort v_piece v_seen kk4_0 n_4 (l3_4 + 1) l1_4) else (if inB l3_4 42 = true then (if (v_sort l3_4.toNatClampNeg) = 0 then (if inB l3_4 42 = true then (f_M_marked_L4 v_items v_sort v_piece v_seen kk4_0 n_4 (l3_4 + 1) (l1_4 ||| (jlshl (1 : Int64) (v_piece l3_4.toNatClampNeg)))) else none) else (f_M_marked_L4 v_items v_sort v_piece v_seen kk4_0 n_4 (l3_4 + 1) l1_4)) else none)) else none))
theorem f_M_marked_L4_s (v_items : Int32) (v_sort : Nat → Int32) (v_piece : Nat → Int32) (v_seen : Nat → Int32) (kk4_0 : Int32 → Int64 → Option (Int64)) (n_4 : Nat) (l3_4 : Int32) (l1_4 : Int64) : f_M_marked_L4 v_items v_sort v_piece v_seen kk4_0 (n_4 + 1) l3_4 l1_4 = (if v_items ≤ l3_4 then (kk4_0 l3_4 l1_4) else (if inB l3_4 42 = true then (if (v_seen l3_4.toNatClampNeg) = 0 then (f_M_marked_L4 v_items v_sort v_piece v_seen kk4_0 n_4 (l3_4 + 1) l1_4) else (if inB l3_4 42 = true then (if (v_sort l3_4.toNatClampNeg) = 0 then (if inB l3_4 42 = true then (f_M_marked_L4 v_items v_sort v_piece v_seen kk4_0 n_4 (l3_4 + 1) (l1_4 ||| (jlshl (1 : Int64) (v_piece l3_4.toNatClampNeg)))) else none) else (f_M_marked_L4 v_items v_sort v_piece v_seen kk4_0 n_4 (l3_4 + 1) l1_4)) else none)) else none)) := rfl
def f_M_marked (fu : Nat) (v_items : Int32) (v_sort : Nat → Int32) (v_piece : Nat → Int32) (v_seen : Nat → Int32) : Option (Int64) := (f_M_marked_L4 v_items v_sort v_piece v_seen (fun l3_4 l1_4 => some l1_4) fu (0 : Int32) (0 : Int64))
set_option maxRecDepth 100000 in
set_option maxHeartbeats 4000000 in
theorem c_M_marked {l : Launch} {D : va_G} {cI cJ cC cZ cR : ClassId} (fu : Nat) (a_m a_typed a_glob a_length a_allows a_permissions a_many a_sort a_piece a_onward a_open a_seen a_stack a_bytes a_star a_behind a_ends a_ruleOf a_classOf a_example a_set a_given a_kind a_finer a_leads a_stateOf a_setOf : Nat)   (v_size : Int32) (v_rules : Int32) (v_items : Int32) (v_pieces : Int32) (v_first : Int64) (v_emptyOf : Int32) (v_classes : Int32) (v_sets : Int32) (v_states : Int32) (v_walker : Int32) (v_sort : Nat → Int32) (v_piece : Nat → Int32) (v_seen : Nat → Int32)  (o_r : Int64) (h : f_M_marked fu v_items v_sort v_piece v_seen = some o_r) : GM l D (tysL cI cJ cC cZ cR) y_M_marked b_M_marked 4 (some (.long)) { frames := 0, cells := 0, slots := 0, locals := 0 } [.ref a_m] (w_M_marked (cI := cI) (cJ := cJ) (cC := cC) (cZ := cZ) (cR := cR) a_m a_typed a_glob a_length a_allows a_permissions a_many a_sort a_piece a_onward a_open a_seen a_stack a_bytes a_star a_behind a_ends a_ruleOf a_classOf a_example a_set a_given a_kind a_finer a_leads a_stateOf a_setOf v_size v_rules v_items v_pieces v_first v_emptyOf v_classes v_sets v_states v_walker v_sort v_piece v_seen) (fun (o : Option Value) (w : va_W) => o = some (.long o_r) ∧ w = w_M_marked (cI := cI) (cJ := cJ) (cC := cC) (cZ := cZ) (cR := cR) a_m a_typed a_glob a_length a_allows a_permissions a_many a_sort a_piece a_onward a_open a_seen a_stack a_bytes a_star a_behind a_ends a_ruleOf a_classOf a_example a_set a_given a_kind a_finer a_leads a_stateOf a_setOf v_size v_rules v_items v_pieces v_first v_emptyOf v_classes v_sets v_states v_walker v_sort v_piece v_seen) := by
  refine GM.of (by decide) (Nat.le_of_ble_eq_true rfl) (lv := [(0, .ref a_m)]) rfl ?_
  intro X hX C
  subst hX
  refine k_lconst C d_M_marked_0 (v := (0 : Int64)) (by decide) rfl ?_
  refine k_lstore_n (lv' := [(1, .long (0 : Int64)), (0, .ref a_m)]) C d_M_marked_1 rfl (by decide) rfl rfl ?_
  refine k_iconst C d_M_marked_2 (v := (0 : Int32)) (by decide) rfl ?_
  refine k_istore_n (lv' := [(3, .int (0 : Int32)), (1, .long (0 : Int64)), (0, .ref a_m)]) C d_M_marked_3 rfl (by decide) rfl rfl ?_
  have X4_0 : ∀ (l3_4 : Int32) (l1_4 : Int64), some l1_4 = some o_r → Wk X { frames := 0, cells := 0, slots := 0, locals := 0 } 4 D (va_A (w_M_marked (cI := cI) (cJ := cJ) (cC := cC) (cZ := cZ) (cR := cR) a_m a_typed a_glob a_length a_allows a_permissions a_many a_sort a_piece a_onward a_open a_seen a_stack a_bytes a_star a_behind a_ends a_ruleOf a_classOf a_example a_set a_given a_kind a_finer a_leads a_stateOf a_setOf v_size v_rules v_items v_pieces v_first v_emptyOf v_classes v_sets v_states v_walker v_sort v_piece v_seen) (xs X).heap.size) 0 0 (GE X D (w_M_marked (cI := cI) (cJ := cJ) (cC := cC) (cZ := cZ) (cR := cR) a_m a_typed a_glob a_length a_allows a_permissions a_many a_sort a_piece a_onward a_open a_seen a_stack a_bytes a_star a_behind a_ends a_ruleOf a_classOf a_example a_set a_given a_kind a_finer a_leads a_stateOf a_setOf v_size v_rules v_items v_pieces v_first v_emptyOf v_classes v_sets v_states v_walker v_sort v_piece v_seen) (fun (o : Option Value) (w : va_W) => o = some (.long o_r) ∧ w = w_M_marked (cI := cI) (cJ := cJ) (cC := cC) (cZ := cZ) (cR := cR) a_m a_typed a_glob a_length a_allows a_permissions a_many a_sort a_piece a_onward a_open a_seen a_stack a_bytes a_star a_behind a_ends a_ruleOf a_classOf a_example a_set a_given a_kind a_finer a_leads a_stateOf a_setOf v_size v_rules v_items v_pieces v_first v_emptyOf v_classes v_sets v_states v_walker v_sort v_piece v_seen) 0 0) (w_M_marked (cI := cI) (cJ := cJ) (cC := cC) (cZ := cZ) (cR := cR) a_m a_typed a_glob a_length a_allows a_permissions a_many a_sort a_piece a_onward a_open a_seen a_stack a_bytes a_star a_behind a_ends a_ruleOf a_classOf a_example a_set a_given a_kind a_finer a_leads a_stateOf a_setOf v_size v_rules v_items v_pieces v_first v_emptyOf v_classes v_sets v_states v_walker v_sort v_piece v_seen) [(3, .int l3_4), (1, .long l1_4), (0, .ref a_m)] [] 51 := by
    intro l3_4 l1_4 h
    refine k_lload_n C d_M_marked_51 rfl 1 rfl rfl ?_
    exact k_lret C d_M_marked_52 (tr1 h (fun t => (fun (o : Option Value) (w : va_W) => o = some (.long (t)) ∧ w = w_M_marked (cI := cI) (cJ := cJ) (cC := cC) (cZ := cZ) (cR := cR) a_m a_typed a_glob a_length a_allows a_permissions a_many a_sort a_piece a_onward a_open a_seen a_stack a_bytes a_star a_behind a_ends a_ruleOf a_classOf a_example a_set a_given a_kind a_finer a_leads a_stateOf a_setOf v_size v_rules v_items v_pieces v_first v_emptyOf v_classes v_sets v_states v_walker v_sort v_piece v_seen) (some (Value.long l1_4)) (w_M_marked (cI := cI) (cJ := cJ) (cC := cC) (cZ := cZ) (cR := cR) a_m a_typed a_glob a_length a_allows a_permissions a_many a_sort a_piece a_onward a_open a_seen a_stack a_bytes a_star a_behind a_ends a_ruleOf a_classOf a_example a_set a_given a_kind a_finer a_leads a_stateOf a_setOf v_size v_rules v_items v_pieces v_first v_emptyOf v_classes v_sets v_states v_walker v_sort v_piece v_seen)) ⟨rfl, rfl⟩)
  have L4 : ∀ (kk4_0 : Int32 → Int64 → Option (Int64)) (hX4_0 : ∀ (l3_4 : Int32) (l1_4 : Int64), kk4_0 l3_4 l1_4 = some o_r → Wk X { frames := 0, cells := 0, slots := 0, locals := 0 } 4 D (va_A (w_M_marked (cI := cI) (cJ := cJ) (cC := cC) (cZ := cZ) (cR := cR) a_m a_typed a_glob a_length a_allows a_permissions a_many a_sort a_piece a_onward a_open a_seen a_stack a_bytes a_star a_behind a_ends a_ruleOf a_classOf a_example a_set a_given a_kind a_finer a_leads a_stateOf a_setOf v_size v_rules v_items v_pieces v_first v_emptyOf v_classes v_sets v_states v_walker v_sort v_piece v_seen) (xs X).heap.size) 0 0 (GE X D (w_M_marked (cI := cI) (cJ := cJ) (cC := cC) (cZ := cZ) (cR := cR) a_m a_typed a_glob a_length a_allows a_permissions a_many a_sort a_piece a_onward a_open a_seen a_stack a_bytes a_star a_behind a_ends a_ruleOf a_classOf a_example a_set a_given a_kind a_finer a_leads a_stateOf a_setOf v_size v_rules v_items v_pieces v_first v_emptyOf v_classes v_sets v_states v_walker v_sort v_piece v_seen) (fun (o : Option Value) (w : va_W) => o = some (.long o_r) ∧ w = w_M_marked (cI := cI) (cJ := cJ) (cC := cC) (cZ := cZ) (cR := cR) a_m a_typed a_glob a_length a_allows a_permissions a_many a_sort a_piece a_onward a_open a_seen a_stack a_bytes a_star a_behind a_ends a_ruleOf a_classOf a_example a_set a_given a_kind a_finer a_leads a_stateOf a_setOf v_size v_rules v_items v_pieces v_first v_emptyOf v_classes v_sets v_states v_walker v_sort v_piece v_seen) 0 0) (w_M_marked (cI := cI) (cJ := cJ) (cC := cC) (cZ := cZ) (cR := cR) a_m a_typed a_glob a_length a_allows a_permissions a_many a_sort a_piece a_onward a_open a_seen a_stack a_bytes a_star a_behind a_ends a_ruleOf a_classOf a_example a_set a_given a_kind a_finer a_leads a_stateOf a_setOf v_size v_rules v_items v_pieces v_first v_emptyOf v_classes v_sets v_states v_walker v_sort v_piece v_seen) [(3, .int l3_4), (1, .long l1_4), (0, .ref a_m)] [] 51) (n_4 : Nat) (l3_4 : Int32) (l1_4 : Int64), f_M_marked_L4 v_items v_sort v_piece v_seen kk4_0 n_4 l3_4 l1_4 = some o_r → Wk X { frames := 0, cells := 0, slots := 0, locals := 0 } 4 D (va_A (w_M_marked (cI := cI) (cJ := cJ) (cC := cC) (cZ := cZ) (cR := cR) a_m a_typed a_glob a_length a_allows a_permissions a_many a_sort a_piece a_onward a_open a_seen a_stack a_bytes a_star a_behind a_ends a_ruleOf a_classOf a_example a_set a_given a_kind a_finer a_leads a_stateOf a_setOf v_size v_rules v_items v_pieces v_first v_emptyOf v_classes v_sets v_states v_walker v_sort v_piece v_seen) (xs X).heap.size) 0 0 (GE X D (w_M_marked (cI := cI) (cJ := cJ) (cC := cC) (cZ := cZ) (cR := cR) a_m a_typed a_glob a_length a_allows a_permissions a_many a_sort a_piece a_onward a_open a_seen a_stack a_bytes a_star a_behind a_ends a_ruleOf a_classOf a_example a_set a_given a_kind a_finer a_leads a_stateOf a_setOf v_size v_rules v_items v_pieces v_first v_emptyOf v_classes v_sets v_states v_walker v_sort v_piece v_seen) (fun (o : Option Value) (w : va_W) => o = some (.long o_r) ∧ w = w_M_marked (cI := cI) (cJ := cJ) (cC := cC) (cZ := cZ) (cR := cR) a_m a_typed a_glob a_length a_allows a_permissions a_many a_sort a_piece a_onward a_open a_seen a_stack a_bytes a_star a_behind a_ends a_ruleOf a_classOf a_example a_set a_given a_kind a_finer a_leads a_stateOf a_setOf v_size v_rules v_items v_pieces v_first v_emptyOf v_classes v_sets v_states v_walker v_sort v_piece v_seen) 0 0) (w_M_marked (cI := cI) (cJ := cJ) (cC := cC) (cZ := cZ) (cR := cR) a_m a_typed a_glob a_length a_allows a_permissions a_many a_sort a_piece a_onward a_open a_seen a_stack a_bytes a_star a_behind a_ends a_ruleOf a_classOf a_example a_set a_given a_kind a_finer a_leads a_stateOf a_setOf v_size v_rules v_items v_pieces v_first v_emptyOf v_classes v_sets v_states v_walker v_sort v_piece v_seen) [(3, .int l3_4), (1, .long l1_4), (0, .ref a_m)] [] 4 := by
    intro kk4_0 hX4_0 n_4
    induction n_4 with
    | zero =>
      intro l3_4 l1_4 h
      exact nS h
    | succ n_4 ih4 =>
      intro l3_4 l1_4 h
      replace h := (f_M_marked_L4_s _ _ _ _ _ _ _ _).symm.trans h
      refine k_iload_n C d_M_marked_4 rfl 0 rfl rfl ?_
      refine k_aload_n C d_M_marked_5 rfl 2 rfl rfl ?_
      refine k_getf C d_M_marked_6 hin_M rfl 8 (by decide) mw4 0 rfl rfl rfl ?_
      refine k_icmp_ge (tgt := 51) C d_M_marked_9 (by decide) rfl (fun c1 => ?_) (fun c1 => ?_)
      · replace h := gi_t h c1
        exact hX4_0 l3_4 l1_4 h
      · replace h := gi_f h c1
        refine k_aload_n C d_M_marked_12 rfl 2 rfl rfl ?_
        refine k_getf C d_M_marked_13 hin_M rfl 13 (by decide) mw19 0 rfl rfl rfl ?_
        refine k_iload_n C d_M_marked_16 rfl 0 rfl rfl ?_
        have g2 := gd1 h
        replace h := gd2 h
        refine k_zald C d_M_marked_17 3 3 rfl rfl (inB_in g2) rfl ?_
        refine k_if_eq (tgt := 43) C d_M_marked_18 (by decide) rfl (fun c3 => ?_) (fun c3 => ?_)
        · replace h := gi_t h c3
          refine k_lload_n C d_M_marked_43 rfl 1 rfl rfl ?_
          refine k_lstore_n (lv' := [(1, .long l1_4), (3, .int l3_4), (0, .ref a_m)]) C d_M_marked_44 rfl (by decide) rfl rfl ?_
          refine k_iinc (lv' := [(3, .int (l3_4 + 1)), (1, .long l1_4), (0, .ref a_m)]) C d_M_marked_45 1 rfl rfl (by decide) rfl rfl ?_
          refine k_goto (tgt := 4) C d_M_marked_48 (by decide) ?_
          exact ih4 (l3_4 + 1) l1_4 h
        · replace h := gi_f h c3
          refine k_aload_n C d_M_marked_21 rfl 2 rfl rfl ?_
          refine k_getf C d_M_marked_22 hin_M rfl 9 (by decide) mw3 0 rfl rfl rfl ?_
          refine k_iload_n C d_M_marked_25 rfl 0 rfl rfl ?_
          have g4 := gd1 h
          replace h := gd2 h
          refine k_iald C d_M_marked_26 1 0 rfl rfl (inB_in g4) rfl ?_
          refine k_if_ne (tgt := 43) C d_M_marked_27 (by decide) rfl (fun c5 => ?_) (fun c5 => ?_)
          · replace h := gi_f h c5
            refine k_lload_n C d_M_marked_43 rfl 1 rfl rfl ?_
            refine k_lstore_n (lv' := [(1, .long l1_4), (3, .int l3_4), (0, .ref a_m)]) C d_M_marked_44 rfl (by decide) rfl rfl ?_
            refine k_iinc (lv' := [(3, .int (l3_4 + 1)), (1, .long l1_4), (0, .ref a_m)]) C d_M_marked_45 1 rfl rfl (by decide) rfl rfl ?_
            refine k_goto (tgt := 4) C d_M_marked_48 (by decide) ?_
            exact ih4 (l3_4 + 1) l1_4 h
          · replace h := gi_t h c5
            refine k_lload_n C d_M_marked_30 rfl 1 rfl rfl ?_
            refine k_lconst C d_M_marked_31 (v := (1 : Int64)) (by decide) rfl ?_
            refine k_aload_n C d_M_marked_32 rfl 2 rfl rfl ?_
            refine k_getf C d_M_marked_33 hin_M rfl 10 (by decide) mw5 0 rfl rfl rfl ?_
            refine k_iload_n C d_M_marked_36 rfl 0 rfl rfl ?_
            have g6 := gd1 h
            replace h := gd2 h
            refine k_iald C d_M_marked_37 2 0 rfl rfl (inB_in g6) rfl ?_
            refine k_lshl C d_M_marked_38 rfl ?_
            refine k_lor C d_M_marked_39 rfl ?_
            refine k_goto (tgt := 44) C d_M_marked_40 (by decide) ?_
            refine k_lstore_n (lv' := [(1, .long (l1_4 ||| (jlshl (1 : Int64) (v_piece l3_4.toNatClampNeg)))), (3, .int l3_4), (0, .ref a_m)]) C d_M_marked_44 rfl (by decide) rfl rfl ?_
            refine k_iinc (lv' := [(3, .int (l3_4 + 1)), (1, .long (l1_4 ||| (jlshl (1 : Int64) (v_piece l3_4.toNatClampNeg)))), (0, .ref a_m)]) C d_M_marked_45 1 rfl rfl (by decide) rfl rfl ?_
            refine k_goto (tgt := 4) C d_M_marked_48 (by decide) ?_
            exact ih4 (l3_4 + 1) (l1_4 ||| (jlshl (1 : Int64) (v_piece l3_4.toNatClampNeg))) h
  exact L4 (fun l3_4 l1_4 => some l1_4) X4_0 fu (0 : Int32) (0 : Int64) h
theorem d_M_lay_0 : decode b_M_lay 0 = .ok (.aload_n 0, 1) := by decide +kernel
theorem d_M_lay_1 : decode b_M_lay 1 = .ok (.aload_n 0, 1) := by decide +kernel
theorem d_M_lay_2 : decode b_M_lay 2 = .ok (.getfield 13, 3) := by decide +kernel
theorem d_M_lay_5 : decode b_M_lay 5 = .ok (.bipush 40, 2) := by decide +kernel
theorem d_M_lay_7 : decode b_M_lay 7 = .ok (.iload_n 1, 1) := by decide +kernel
theorem d_M_lay_8 : decode b_M_lay 8 = .ok (.imul, 1) := by decide +kernel
theorem d_M_lay_9 : decode b_M_lay 9 = .ok (.aload_n 0, 1) := by decide +kernel
theorem d_M_lay_10 : decode b_M_lay 10 = .ok (.getfield 16, 3) := by decide +kernel
theorem d_M_lay_13 : decode b_M_lay 13 = .ok (.iload_n 1, 1) := by decide +kernel
theorem d_M_lay_14 : decode b_M_lay 14 = .ok (.iaload, 1) := by decide +kernel
theorem d_M_lay_15 : decode b_M_lay 15 = .ok (.invokevirtual 136, 3) := by decide +kernel
theorem d_M_lay_18 : decode b_M_lay 18 = .ok (.pop, 1) := by decide +kernel
theorem d_M_lay_19 : decode b_M_lay 19 = .ok (.aload_n 0, 1) := by decide +kernel
theorem d_M_lay_20 : decode b_M_lay 20 = .ok (.iconst 0, 1) := by decide +kernel
theorem d_M_lay_21 : decode b_M_lay 21 = .ok (.invokevirtual 140, 3) := by decide +kernel
theorem d_M_lay_24 : decode b_M_lay 24 = .ok (.aload_n 0, 1) := by decide +kernel
theorem d_M_lay_25 : decode b_M_lay 25 = .ok (.aload_n 0, 1) := by decide +kernel
theorem d_M_lay_26 : decode b_M_lay 26 = .ok (.getfield 144, 3) := by decide +kernel
theorem d_M_lay_29 : decode b_M_lay 29 = .ok (.aload_n 0, 1) := by decide +kernel
theorem d_M_lay_30 : decode b_M_lay 30 = .ok (.invokevirtual 148, 3) := by decide +kernel
theorem d_M_lay_33 : decode b_M_lay 33 = .ok (.lor, 1) := by decide +kernel
theorem d_M_lay_34 : decode b_M_lay 34 = .ok (.putfield 144, 3) := by decide +kernel
theorem d_M_lay_37 : decode b_M_lay 37 = .ok (.aload_n 0, 1) := by decide +kernel
theorem d_M_lay_38 : decode b_M_lay 38 = .ok (.aload_n 0, 1) := by decide +kernel
theorem d_M_lay_39 : decode b_M_lay 39 = .ok (.getfield 41, 3) := by decide +kernel
theorem d_M_lay_42 : decode b_M_lay 42 = .ok (.aload_n 0, 1) := by decide +kernel
theorem d_M_lay_43 : decode b_M_lay 43 = .ok (.getfield 98, 3) := by decide +kernel
theorem d_M_lay_46 : decode b_M_lay 46 = .ok (.iconst 1, 1) := by decide +kernel
theorem d_M_lay_47 : decode b_M_lay 47 = .ok (.isub, 1) := by decide +kernel
theorem d_M_lay_48 : decode b_M_lay 48 = .ok (.baload, 1) := by decide +kernel
theorem d_M_lay_49 : decode b_M_lay 49 = .ok (.ifCond .eq 14, 3) := by decide +kernel
theorem d_M_lay_52 : decode b_M_lay 52 = .ok (.aload_n 0, 1) := by decide +kernel
theorem d_M_lay_53 : decode b_M_lay 53 = .ok (.getfield 152, 3) := by decide +kernel
theorem d_M_lay_56 : decode b_M_lay 56 = .ok (.iconst 1, 1) := by decide +kernel
theorem d_M_lay_57 : decode b_M_lay 57 = .ok (.iload_n 1, 1) := by decide +kernel
theorem d_M_lay_58 : decode b_M_lay 58 = .ok (.ishl, 1) := by decide +kernel
theorem d_M_lay_59 : decode b_M_lay 59 = .ok (.ior, 1) := by decide +kernel
theorem d_M_lay_60 : decode b_M_lay 60 = .ok (.goto 7, 3) := by decide +kernel
theorem d_M_lay_63 : decode b_M_lay 63 = .ok (.aload_n 0, 1) := by decide +kernel
theorem d_M_lay_64 : decode b_M_lay 64 = .ok (.getfield 152, 3) := by decide +kernel
theorem d_M_lay_67 : decode b_M_lay 67 = .ok (.putfield 152, 3) := by decide +kernel
theorem d_M_lay_70 : decode b_M_lay 70 = .ok (.iconst 0, 1) := by decide +kernel
theorem d_M_lay_71 : decode b_M_lay 71 = .ok (.istore_n 2, 1) := by decide +kernel
theorem d_M_lay_72 : decode b_M_lay 72 = .ok (.iload_n 2, 1) := by decide +kernel
theorem d_M_lay_73 : decode b_M_lay 73 = .ok (.aload_n 0, 1) := by decide +kernel
theorem d_M_lay_74 : decode b_M_lay 74 = .ok (.getfield 98, 3) := by decide +kernel
theorem d_M_lay_77 : decode b_M_lay 77 = .ok (.if_icmp .ge 79, 3) := by decide +kernel
theorem d_M_lay_80 : decode b_M_lay 80 = .ok (.aload_n 0, 1) := by decide +kernel
theorem d_M_lay_81 : decode b_M_lay 81 = .ok (.getfield 29, 3) := by decide +kernel
theorem d_M_lay_84 : decode b_M_lay 84 = .ok (.iload_n 2, 1) := by decide +kernel
theorem d_M_lay_85 : decode b_M_lay 85 = .ok (.iaload, 1) := by decide +kernel
theorem d_M_lay_86 : decode b_M_lay 86 = .ok (.ifCond .ne 64, 3) := by decide +kernel
theorem d_M_lay_89 : decode b_M_lay 89 = .ok (.aload_n 0, 1) := by decide +kernel
theorem d_M_lay_90 : decode b_M_lay 90 = .ok (.getfield 32, 3) := by decide +kernel
theorem d_M_lay_93 : decode b_M_lay 93 = .ok (.iload_n 2, 1) := by decide +kernel
theorem d_M_lay_94 : decode b_M_lay 94 = .ok (.iaload, 1) := by decide +kernel
theorem d_M_lay_95 : decode b_M_lay 95 = .ok (.istore_n 3, 1) := by decide +kernel
theorem d_M_lay_96 : decode b_M_lay 96 = .ok (.aload_n 0, 1) := by decide +kernel
theorem d_M_lay_97 : decode b_M_lay 97 = .ok (.aload_n 0, 1) := by decide +kernel
theorem d_M_lay_98 : decode b_M_lay 98 = .ok (.getfield 51, 3) := by decide +kernel
theorem d_M_lay_101 : decode b_M_lay 101 = .ok (.iload_n 3, 1) := by decide +kernel
theorem d_M_lay_102 : decode b_M_lay 102 = .ok (.baload, 1) := by decide +kernel
theorem d_M_lay_103 : decode b_M_lay 103 = .ok (.ifCond .eq 7, 3) := by decide +kernel
theorem d_M_lay_106 : decode b_M_lay 106 = .ok (.iload_n 2, 1) := by decide +kernel
theorem d_M_lay_107 : decode b_M_lay 107 = .ok (.goto 6, 3) := by decide +kernel
theorem d_M_lay_110 : decode b_M_lay 110 = .ok (.iload_n 2, 1) := by decide +kernel
theorem d_M_lay_111 : decode b_M_lay 111 = .ok (.iconst 1, 1) := by decide +kernel
theorem d_M_lay_112 : decode b_M_lay 112 = .ok (.iadd, 1) := by decide +kernel
theorem d_M_lay_113 : decode b_M_lay 113 = .ok (.invokevirtual 140, 3) := by decide +kernel
theorem d_M_lay_116 : decode b_M_lay 116 = .ok (.aload_n 0, 1) := by decide +kernel
theorem d_M_lay_117 : decode b_M_lay 117 = .ok (.getfield 54, 3) := by decide +kernel
theorem d_M_lay_120 : decode b_M_lay 120 = .ok (.iload_n 3, 1) := by decide +kernel
theorem d_M_lay_121 : decode b_M_lay 121 = .ok (.aload_n 0, 1) := by decide +kernel
theorem d_M_lay_122 : decode b_M_lay 122 = .ok (.invokevirtual 148, 3) := by decide +kernel
theorem d_M_lay_125 : decode b_M_lay 125 = .ok (.lastore, 1) := by decide +kernel
theorem d_M_lay_126 : decode b_M_lay 126 = .ok (.aload_n 0, 1) := by decide +kernel
theorem d_M_lay_127 : decode b_M_lay 127 = .ok (.getfield 57, 3) := by decide +kernel
theorem d_M_lay_130 : decode b_M_lay 130 = .ok (.iload_n 3, 1) := by decide +kernel
theorem d_M_lay_131 : decode b_M_lay 131 = .ok (.aload_n 0, 1) := by decide +kernel
theorem d_M_lay_132 : decode b_M_lay 132 = .ok (.getfield 41, 3) := by decide +kernel
theorem d_M_lay_135 : decode b_M_lay 135 = .ok (.aload_n 0, 1) := by decide +kernel
theorem d_M_lay_136 : decode b_M_lay 136 = .ok (.getfield 98, 3) := by decide +kernel
theorem d_M_lay_139 : decode b_M_lay 139 = .ok (.iconst 1, 1) := by decide +kernel
theorem d_M_lay_140 : decode b_M_lay 140 = .ok (.isub, 1) := by decide +kernel
theorem d_M_lay_141 : decode b_M_lay 141 = .ok (.baload, 1) := by decide +kernel
theorem d_M_lay_142 : decode b_M_lay 142 = .ok (.bastore, 1) := by decide +kernel
theorem d_M_lay_143 : decode b_M_lay 143 = .ok (.aload_n 0, 1) := by decide +kernel
theorem d_M_lay_144 : decode b_M_lay 144 = .ok (.getfield 60, 3) := by decide +kernel
theorem d_M_lay_147 : decode b_M_lay 147 = .ok (.iload_n 3, 1) := by decide +kernel
theorem d_M_lay_148 : decode b_M_lay 148 = .ok (.iload_n 1, 1) := by decide +kernel
theorem d_M_lay_149 : decode b_M_lay 149 = .ok (.iastore, 1) := by decide +kernel
theorem d_M_lay_150 : decode b_M_lay 150 = .ok (.iinc 2 1, 3) := by decide +kernel
theorem d_M_lay_153 : decode b_M_lay 153 = .ok (.goto (-81), 3) := by decide +kernel
theorem d_M_lay_156 : decode b_M_lay 156 = .ok (.return_, 1) := by decide +kernel
abbrev w_M_lay {cI cJ cC cZ cR : ClassId} (a_m a_typed a_glob a_length a_allows a_permissions a_many a_sort a_piece a_onward a_open a_seen a_stack a_bytes a_star a_behind a_ends a_ruleOf a_classOf a_example a_set a_given a_kind a_finer a_leads a_stateOf a_setOf : Nat) (v_size : Int32) (v_rules : Int32) (v_items : Int32) (v_pieces : Int32) (v_first : Int64) (v_emptyOf : Int32) (v_classes : Int32) (v_sets : Int32) (v_states : Int32) (v_walker : Int32) (v_glob : Nat → Int32) (v_length : Nat → Int32) (v_sort : Nat → Int32) (v_piece : Nat → Int32) (v_onward : Nat → Int32) (v_open : Nat → Int32) (v_seen : Nat → Int32) (v_stack : Nat → Int32) (v_bytes : Nat → Int64) (v_star : Nat → Int32) (v_behind : Nat → Int64) (v_ends : Nat → Int32) (v_ruleOf : Nat → Int32) : va_W := [(a_m, .inr (8, [.ref a_typed, .int v_size, .int v_rules, .ref a_glob, .ref a_length, .ref a_allows, .ref a_permissions, .ref a_many, .int v_items, .ref a_sort, .ref a_piece, .ref a_onward, .ref a_open, .ref a_seen, .ref a_stack, .int v_pieces, .ref a_bytes, .ref a_star, .ref a_behind, .ref a_ends, .ref a_ruleOf, .long v_first, .int v_emptyOf, .int v_classes, .ref a_classOf, .ref a_example, .int v_sets, .ref a_set, .ref a_given, .ref a_kind, .ref a_finer, .ref a_leads, .int v_states, .ref a_stateOf, .ref a_setOf, .int v_walker])), (a_glob, .inl (cI, 240, .inl v_glob)), (a_length, .inl (cI, 6, .inl v_length)), (a_sort, .inl (cI, 42, .inl v_sort)), (a_piece, .inl (cI, 42, .inl v_piece)), (a_onward, .inl (cI, 42, .inl v_onward)), (a_open, .inl (cI, 4, .inl v_open)), (a_seen, .inl (cZ, 42, .inl v_seen)), (a_stack, .inl (cI, 42, .inl v_stack)), (a_bytes, .inl (cJ, 400, .inr (.inl v_bytes))), (a_star, .inl (cZ, 100, .inl v_star)), (a_behind, .inl (cJ, 60, .inr (.inl v_behind))), (a_ends, .inl (cZ, 60, .inl v_ends)), (a_ruleOf, .inl (cI, 60, .inl v_ruleOf))]
def f_M_lay_J113 (p1 : Int32) (v_items_j67 : Int32) (v_sort_j67 : Nat → Int32) (v_piece_j67 : Nat → Int32) (v_onward_j67 : Nat → Int32) (v_star_j67 : Nat → Int32) (fu : Nat) (kb72 : Int32 → (Nat → Int32) → (Nat → Int32) → (Nat → Int64) → (Nat → Int32) → (Nat → Int32) → Option (Int32 × Int32 × Int64 × Int32 × (Nat → Int32) × (Nat → Int32) × (Nat → Int32) × (Nat → Int32) × (Nat → Int32) × (Nat → Int32) × (Nat → Int64) × (Nat → Int32) × (Nat → Int64) × (Nat → Int32) × (Nat → Int32))) (l3_j113 : Int32) (l2_j113 : Int32) (s1_j113 : Int32) (v_seen_j113 : Nat → Int32) (v_stack_j113 : Nat → Int32) (v_behind_j113 : Nat → Int64) (v_ends_j113 : Nat → Int32) (v_ruleOf_j113 : Nat → Int32) : Option (Int32 × Int32 × Int64 × Int32 × (Nat → Int32) × (Nat → Int32) × (Nat → Int32) × (Nat → Int32) × (Nat → Int32) × (Nat → Int32) × (Nat → Int64) × (Nat → Int32) × (Nat → Int64) × (Nat → Int32) × (Nat → Int32)) := (Option.bind (f_M_spread fu s1_j113 v_items_j67 v_sort_j67 v_piece_j67 v_onward_j67 v_seen_j113 v_stack_j113 v_star_j67) fun (yv_seen_1, yv_stack_2) => (Option.bind (f_M_marked fu v_items_j67 v_sort_j67 v_piece_j67 yv_seen_1) fun r4 => (if inB l3_j113 60 = true then (if inB (v_items_j67 - (1 : Int32)) 42 = true then (if inB l3_j113 60 = true then (if inB l3_j113 60 = true then (kb72 (l2_j113 + 1) yv_seen_1 yv_stack_2 (vp_updL v_behind_j113 l3_j113.toNatClampNeg r4) (upd v_ends_j113 l3_j113.toNatClampNeg (vp_nar .boolean (yv_seen_1 (v_items_j67 - (1 : Int32)).toNatClampNeg))) (upd v_ruleOf_j113 l3_j113.toNatClampNeg p1)) else none) else none) else none) else none)))
def f_M_lay_L72 (p1 : Int32) (v_items_j67 : Int32) (v_sort_j67 : Nat → Int32) (v_piece_j67 : Nat → Int32) (v_onward_j67 : Nat → Int32) (v_star_j67 : Nat → Int32) (fu : Nat) (kk72_0 : Int32 → (Nat → Int32) → (Nat → Int32) → (Nat → Int64) → (Nat → Int32) → (Nat → Int32) → Option (Int32 × Int32 × Int64 × Int32 × (Nat → Int32) × (Nat → Int32) × (Nat → Int32) × (Nat → Int32) × (Nat → Int32) × (Nat → Int32) × (Nat → Int64) × (Nat → Int32) × (Nat → Int64) × (Nat → Int32) × (Nat → Int32))) : Nat → Int32 → (Nat → Int32) → (Nat → Int32) → (Nat → Int64) → (Nat → Int32) → (Nat → Int32) → Option (Int32 × Int32 × Int64 × Int32 × (Nat → Int32) × (Nat → Int32) × (Nat → Int32) × (Nat → Int32) × (Nat → Int32) × (Nat → Int32) × (Nat → Int64) × (Nat → Int32) × (Nat → Int64) × (Nat → Int32) × (Nat → Int32))
  | 0, _, _, _, _, _, _ => none
  | n_72 + 1, l2_72, v_seen_72, v_stack_72, v_behind_72, v_ends_72, v_ruleOf_72 => (if v_items_j67 ≤ l2_72 then (kk72_0 l2_72 v_seen_72 v_stack_72 v_behind_72 v_ends_72 v_ruleOf_72) else (if inB l2_72 42 = true then (if (v_sort_j67 l2_72.toNatClampNeg) = 0 then (if inB l2_72 42 = true then (if inB (v_piece_j67 l2_72.toNatClampNeg) 100 = true then (if (v_star_j67 (v_piece_j67 l2_72.toNatClampNeg).toNatClampNeg) = 0 then (f_M_lay_J113 p1 v_items_j67 v_sort_j67 v_piece_j67 v_onward_j67 v_star_j67 fu (fun l2_72 v_seen_72 v_stack_72 v_behind_72 v_ends_72 v_ruleOf_72 => f_M_lay_L72 p1 v_items_j67 v_sort_j67 v_piece_j67 v_onward_j67 v_star_j67 fu kk72_0 n_72 l2_72 v_seen_72 v_stack_72 v_behind_72 v_ends_72 v_ruleOf_72) (v_piece_j67 l2_72.toNatClampNeg) l2_72 (l2_72 + (1 : Int32)) v_seen_72 v_stack_72 v_behind_72 v_ends_72 v_ruleOf_72) else (f_M_lay_J113 p1 v_items_j67 v_sort_j67 v_piece_j67 v_onward_j67 v_star_j67 fu (fun l2_72 v_seen_72 v_stack_72 v_behind_72 v_ends_72 v_ruleOf_72 => f_M_lay_L72 p1 v_items_j67 v_sort_j67 v_piece_j67 v_onward_j67 v_star_j67 fu kk72_0 n_72 l2_72 v_seen_72 v_stack_72 v_behind_72 v_ends_72 v_ruleOf_72) (v_piece_j67 l2_72.toNatClampNeg) l2_72 l2_72 v_seen_72 v_stack_72 v_behind_72 v_ends_72 v_ruleOf_72)) else none) else none) else ((fun l2_72 v_seen_72 v_stack_72 v_behind_72 v_ends_72 v_ruleOf_72 => f_M_lay_L72 p1 v_items_j67 v_sort_j67 v_piece_j67 v_onward_j67 v_star_j67 fu kk72_0 n_72 l2_72 v_seen_72 v_stack_72 v_behind_72 v_ends_72 v_ruleOf_72) (l2_72 + 1) v_seen_72 v_stack_72 v_behind_72 v_ends_72 v_ruleOf_72)) else none))
theorem f_M_lay_L72_s (p1 : Int32) (v_items_j67 : Int32) (v_sort_j67 : Nat → Int32) (v_piece_j67 : Nat → Int32) (v_onward_j67 : Nat → Int32) (v_star_j67 : Nat → Int32) (fu : Nat) (kk72_0 : Int32 → (Nat → Int32) → (Nat → Int32) → (Nat → Int64) → (Nat → Int32) → (Nat → Int32) → Option (Int32 × Int32 × Int64 × Int32 × (Nat → Int32) × (Nat → Int32) × (Nat → Int32) × (Nat → Int32) × (Nat → Int32) × (Nat → Int32) × (Nat → Int64) × (Nat → Int32) × (Nat → Int64) × (Nat → Int32) × (Nat → Int32))) (n_72 : Nat) (l2_72 : Int32) (v_seen_72 : Nat → Int32) (v_stack_72 : Nat → Int32) (v_behind_72 : Nat → Int64) (v_ends_72 : Nat → Int32) (v_ruleOf_72 : Nat → Int32) : f_M_lay_L72 p1 v_items_j67 v_sort_j67 v_piece_j67 v_onward_j67 v_star_j67 fu kk72_0 (n_72 + 1) l2_72 v_seen_72 v_stack_72 v_behind_72 v_ends_72 v_ruleOf_72 = (if v_items_j67 ≤ l2_72 then (kk72_0 l2_72 v_seen_72 v_stack_72 v_behind_72 v_ends_72 v_ruleOf_72) else (if inB l2_72 42 = true then (if (v_sort_j67 l2_72.toNatClampNeg) = 0 then (if inB l2_72 42 = true then (if inB (v_piece_j67 l2_72.toNatClampNeg) 100 = true then (if (v_star_j67 (v_piece_j67 l2_72.toNatClampNeg).toNatClampNeg) = 0 then (f_M_lay_J113 p1 v_items_j67 v_sort_j67 v_piece_j67 v_onward_j67 v_star_j67 fu (fun l2_72 v_seen_72 v_stack_72 v_behind_72 v_ends_72 v_ruleOf_72 => f_M_lay_L72 p1 v_items_j67 v_sort_j67 v_piece_j67 v_onward_j67 v_star_j67 fu kk72_0 n_72 l2_72 v_seen_72 v_stack_72 v_behind_72 v_ends_72 v_ruleOf_72) (v_piece_j67 l2_72.toNatClampNeg) l2_72 (l2_72 + (1 : Int32)) v_seen_72 v_stack_72 v_behind_72 v_ends_72 v_ruleOf_72) else (f_M_lay_J113 p1 v_items_j67 v_sort_j67 v_piece_j67 v_onward_j67 v_star_j67 fu (fun l2_72 v_seen_72 v_stack_72 v_behind_72 v_ends_72 v_ruleOf_72 => f_M_lay_L72 p1 v_items_j67 v_sort_j67 v_piece_j67 v_onward_j67 v_star_j67 fu kk72_0 n_72 l2_72 v_seen_72 v_stack_72 v_behind_72 v_ends_72 v_ruleOf_72) (v_piece_j67 l2_72.toNatClampNeg) l2_72 l2_72 v_seen_72 v_stack_72 v_behind_72 v_ends_72 v_ruleOf_72)) else none) else none) else ((fun l2_72 v_seen_72 v_stack_72 v_behind_72 v_ends_72 v_ruleOf_72 => f_M_lay_L72 p1 v_items_j67 v_sort_j67 v_piece_j67 v_onward_j67 v_star_j67 fu kk72_0 n_72 l2_72 v_seen_72 v_stack_72 v_behind_72 v_ends_72 v_ruleOf_72) (l2_72 + 1) v_seen_72 v_stack_72 v_behind_72 v_ends_72 v_ruleOf_72)) else none)) := rfl
def f_M_lay_J67 (p1 : Int32) (fu : Nat) (s1_j67 : Int32) (v_items_j67 : Int32) (v_pieces_j67 : Int32) (v_first_j67 : Int64) (v_sort_j67 : Nat → Int32) (v_piece_j67 : Nat → Int32) (v_onward_j67 : Nat → Int32) (v_open_j67 : Nat → Int32) (v_seen_j67 : Nat → Int32) (v_stack_j67 : Nat → Int32) (v_bytes_j67 : Nat → Int64) (v_star_j67 : Nat → Int32) (v_behind_j67 : Nat → Int64) (v_ends_j67 : Nat → Int32) (v_ruleOf_j67 : Nat → Int32) : Option (Int32 × Int32 × Int64 × Int32 × (Nat → Int32) × (Nat → Int32) × (Nat → Int32) × (Nat → Int32) × (Nat → Int32) × (Nat → Int32) × (Nat → Int64) × (Nat → Int32) × (Nat → Int64) × (Nat → Int32) × (Nat → Int32)) := (f_M_lay_L72 p1 v_items_j67 v_sort_j67 v_piece_j67 v_onward_j67 v_star_j67 fu (fun l2_72 v_seen_72 v_stack_72 v_behind_72 v_ends_72 v_ruleOf_72 => some (v_items_j67, v_pieces_j67, v_first_j67, s1_j67, v_sort_j67, v_piece_j67, v_onward_j67, v_open_j67, v_seen_72, v_stack_72, v_bytes_j67, v_star_j67, v_behind_72, v_ends_72, v_ruleOf_72)) fu (0 : Int32) v_seen_j67 v_stack_j67 v_behind_j67 v_ends_j67 v_ruleOf_j67)
def f_M_lay (fu : Nat) (p1 : Int32) (v_pieces : Int32) (v_first : Int64) (v_emptyOf : Int32) (v_glob : Nat → Int32) (v_length : Nat → Int32) (v_sort : Nat → Int32) (v_piece : Nat → Int32) (v_onward : Nat → Int32) (v_open : Nat → Int32) (v_seen : Nat → Int32) (v_stack : Nat → Int32) (v_bytes : Nat → Int64) (v_star : Nat → Int32) (v_behind : Nat → Int64) (v_ends : Nat → Int32) (v_ruleOf : Nat → Int32) : Option (Int32 × Int32 × Int64 × Int32 × (Nat → Int32) × (Nat → Int32) × (Nat → Int32) × (Nat → Int32) × (Nat → Int32) × (Nat → Int32) × (Nat → Int64) × (Nat → Int32) × (Nat → Int64) × (Nat → Int32) × (Nat → Int32)) := (if inB p1 6 = true then (Option.bind (f_M_read fu 240 ((40 : Int32) * p1) (v_length p1.toNatClampNeg) v_pieces v_sort v_piece v_onward v_open v_bytes v_star v_glob) fun (r17, yv_items_18, yv_pieces_19, yv_sort_20, yv_piece_21, yv_onward_22, yv_open_23, yv_bytes_24, yv_star_25) => (Option.bind (f_M_spread fu (0 : Int32) yv_items_18 yv_sort_20 yv_piece_21 yv_onward_22 v_seen v_stack yv_star_25) fun (yv_seen_27, yv_stack_28) => (Option.bind (f_M_marked fu yv_items_18 yv_sort_20 yv_piece_21 yv_seen_27) fun r30 => (if inB (yv_items_18 - (1 : Int32)) 42 = true then (if (yv_seen_27 (yv_items_18 - (1 : Int32)).toNatClampNeg) = 0 then (f_M_lay_J67 p1 fu v_emptyOf yv_items_18 yv_pieces_19 (v_first ||| r30) yv_sort_20 yv_piece_21 yv_onward_22 yv_open_23 yv_seen_27 yv_stack_28 yv_bytes_24 yv_star_25 v_behind v_ends v_ruleOf) else (f_M_lay_J67 p1 fu (v_emptyOf ||| ((1 : Int32) <<< (p1 &&& 31))) yv_items_18 yv_pieces_19 (v_first ||| r30) yv_sort_20 yv_piece_21 yv_onward_22 yv_open_23 yv_seen_27 yv_stack_28 yv_bytes_24 yv_star_25 v_behind v_ends v_ruleOf)) else none)))) else none)
set_option maxRecDepth 100000 in
set_option maxHeartbeats 4000000 in
theorem c_M_lay {l : Launch} {D : va_G} {cI cJ cC cZ cR : ClassId} (fu : Nat) (a_m a_typed a_glob a_length a_allows a_permissions a_many a_sort a_piece a_onward a_open a_seen a_stack a_bytes a_star a_behind a_ends a_ruleOf a_classOf a_example a_set a_given a_kind a_finer a_leads a_stateOf a_setOf : Nat)   (v_size : Int32) (v_rules : Int32) (v_items : Int32) (v_pieces : Int32) (v_first : Int64) (v_emptyOf : Int32) (v_classes : Int32) (v_sets : Int32) (v_states : Int32) (v_walker : Int32) (v_glob : Nat → Int32) (v_length : Nat → Int32) (v_sort : Nat → Int32) (v_piece : Nat → Int32) (v_onward : Nat → Int32) (v_open : Nat → Int32) (v_seen : Nat → Int32) (v_stack : Nat → Int32) (v_bytes : Nat → Int64) (v_star : Nat → Int32) (v_behind : Nat → Int64) (v_ends : Nat → Int32) (v_ruleOf : Nat → Int32) (p1 : Int32) (o_v_items : Int32) (o_v_pieces : Int32) (o_v_first : Int64) (o_v_emptyOf : Int32) (o_v_sort : Nat → Int32) (o_v_piece : Nat → Int32) (o_v_onward : Nat → Int32) (o_v_open : Nat → Int32) (o_v_seen : Nat → Int32) (o_v_stack : Nat → Int32) (o_v_bytes : Nat → Int64) (o_v_star : Nat → Int32) (o_v_behind : Nat → Int64) (o_v_ends : Nat → Int32) (o_v_ruleOf : Nat → Int32) (h : f_M_lay fu p1 v_pieces v_first v_emptyOf v_glob v_length v_sort v_piece v_onward v_open v_seen v_stack v_bytes v_star v_behind v_ends v_ruleOf = some (o_v_items, o_v_pieces, o_v_first, o_v_emptyOf, o_v_sort, o_v_piece, o_v_onward, o_v_open, o_v_seen, o_v_stack, o_v_bytes, o_v_star, o_v_behind, o_v_ends, o_v_ruleOf)) : GM l D (tysL cI cJ cC cZ cR) y_M_lay b_M_lay 4 none { frames := 4, cells := 0, slots := 0, locals := 110 } [.ref a_m, .int p1] (w_M_lay (cI := cI) (cJ := cJ) (cC := cC) (cZ := cZ) (cR := cR) a_m a_typed a_glob a_length a_allows a_permissions a_many a_sort a_piece a_onward a_open a_seen a_stack a_bytes a_star a_behind a_ends a_ruleOf a_classOf a_example a_set a_given a_kind a_finer a_leads a_stateOf a_setOf v_size v_rules v_items v_pieces v_first v_emptyOf v_classes v_sets v_states v_walker v_glob v_length v_sort v_piece v_onward v_open v_seen v_stack v_bytes v_star v_behind v_ends v_ruleOf) (fun (o : Option Value) (w : va_W) => o = none ∧ w = w_M_lay (cI := cI) (cJ := cJ) (cC := cC) (cZ := cZ) (cR := cR) a_m a_typed a_glob a_length a_allows a_permissions a_many a_sort a_piece a_onward a_open a_seen a_stack a_bytes a_star a_behind a_ends a_ruleOf a_classOf a_example a_set a_given a_kind a_finer a_leads a_stateOf a_setOf v_size v_rules o_v_items o_v_pieces o_v_first o_v_emptyOf v_classes v_sets v_states v_walker v_glob v_length o_v_sort o_v_piece o_v_onward o_v_open o_v_seen o_v_stack o_v_bytes o_v_star o_v_behind o_v_ends o_v_ruleOf) := by
  refine GM.of (by decide) (Nat.le_of_ble_eq_true rfl) (lv := [(0, .ref a_m), (1, .int p1)]) rfl ?_
  intro X hX C
  subst hX
  have J67 : ∀ (s1_j67 : Int32) (v_items_j67 : Int32) (v_pieces_j67 : Int32) (v_first_j67 : Int64) (v_emptyOf_j67 : Int32) (v_sort_j67 : Nat → Int32) (v_piece_j67 : Nat → Int32) (v_onward_j67 : Nat → Int32) (v_open_j67 : Nat → Int32) (v_seen_j67 : Nat → Int32) (v_stack_j67 : Nat → Int32) (v_bytes_j67 : Nat → Int64) (v_star_j67 : Nat → Int32) (v_behind_j67 : Nat → Int64) (v_ends_j67 : Nat → Int32) (v_ruleOf_j67 : Nat → Int32), f_M_lay_J67 p1 fu s1_j67 v_items_j67 v_pieces_j67 v_first_j67 v_sort_j67 v_piece_j67 v_onward_j67 v_open_j67 v_seen_j67 v_stack_j67 v_bytes_j67 v_star_j67 v_behind_j67 v_ends_j67 v_ruleOf_j67 = some (o_v_items, o_v_pieces, o_v_first, o_v_emptyOf, o_v_sort, o_v_piece, o_v_onward, o_v_open, o_v_seen, o_v_stack, o_v_bytes, o_v_star, o_v_behind, o_v_ends, o_v_ruleOf) → Wk X { frames := 4, cells := 0, slots := 0, locals := 110 } 4 D (va_A (w_M_lay (cI := cI) (cJ := cJ) (cC := cC) (cZ := cZ) (cR := cR) a_m a_typed a_glob a_length a_allows a_permissions a_many a_sort a_piece a_onward a_open a_seen a_stack a_bytes a_star a_behind a_ends a_ruleOf a_classOf a_example a_set a_given a_kind a_finer a_leads a_stateOf a_setOf v_size v_rules v_items v_pieces v_first v_emptyOf v_classes v_sets v_states v_walker v_glob v_length v_sort v_piece v_onward v_open v_seen v_stack v_bytes v_star v_behind v_ends v_ruleOf) (xs X).heap.size) 0 0 (GE X D (w_M_lay (cI := cI) (cJ := cJ) (cC := cC) (cZ := cZ) (cR := cR) a_m a_typed a_glob a_length a_allows a_permissions a_many a_sort a_piece a_onward a_open a_seen a_stack a_bytes a_star a_behind a_ends a_ruleOf a_classOf a_example a_set a_given a_kind a_finer a_leads a_stateOf a_setOf v_size v_rules v_items v_pieces v_first v_emptyOf v_classes v_sets v_states v_walker v_glob v_length v_sort v_piece v_onward v_open v_seen v_stack v_bytes v_star v_behind v_ends v_ruleOf) (fun (o : Option Value) (w : va_W) => o = none ∧ w = w_M_lay (cI := cI) (cJ := cJ) (cC := cC) (cZ := cZ) (cR := cR) a_m a_typed a_glob a_length a_allows a_permissions a_many a_sort a_piece a_onward a_open a_seen a_stack a_bytes a_star a_behind a_ends a_ruleOf a_classOf a_example a_set a_given a_kind a_finer a_leads a_stateOf a_setOf v_size v_rules o_v_items o_v_pieces o_v_first o_v_emptyOf v_classes v_sets v_states v_walker v_glob v_length o_v_sort o_v_piece o_v_onward o_v_open o_v_seen o_v_stack o_v_bytes o_v_star o_v_behind o_v_ends o_v_ruleOf) 0 0) (w_M_lay (cI := cI) (cJ := cJ) (cC := cC) (cZ := cZ) (cR := cR) a_m a_typed a_glob a_length a_allows a_permissions a_many a_sort a_piece a_onward a_open a_seen a_stack a_bytes a_star a_behind a_ends a_ruleOf a_classOf a_example a_set a_given a_kind a_finer a_leads a_stateOf a_setOf v_size v_rules v_items_j67 v_pieces_j67 v_first_j67 v_emptyOf_j67 v_classes v_sets v_states v_walker v_glob v_length v_sort_j67 v_piece_j67 v_onward_j67 v_open_j67 v_seen_j67 v_stack_j67 v_bytes_j67 v_star_j67 v_behind_j67 v_ends_j67 v_ruleOf_j67) [(0, .ref a_m), (1, .int p1)] [.int s1_j67, .ref a_m] 67 := by
    intro s1_j67 v_items_j67 v_pieces_j67 v_first_j67 v_emptyOf_j67 v_sort_j67 v_piece_j67 v_onward_j67 v_open_j67 v_seen_j67 v_stack_j67 v_bytes_j67 v_star_j67 v_behind_j67 v_ends_j67 v_ruleOf_j67 h
    refine k_putf (ws' := w_M_lay (cI := cI) (cJ := cJ) (cC := cC) (cZ := cZ) (cR := cR) a_m a_typed a_glob a_length a_allows a_permissions a_many a_sort a_piece a_onward a_open a_seen a_stack a_bytes a_star a_behind a_ends a_ruleOf a_classOf a_example a_set a_given a_kind a_finer a_leads a_stateOf a_setOf v_size v_rules v_items_j67 v_pieces_j67 v_first_j67 s1_j67 v_classes v_sets v_states v_walker v_glob v_length v_sort_j67 v_piece_j67 v_onward_j67 v_open_j67 v_seen_j67 v_stack_j67 v_bytes_j67 v_star_j67 v_behind_j67 v_ends_j67 v_ruleOf_j67) C d_M_lay_67 hin_M hty_M hnn_M rfl 22 (by decide) mw25 rfl 0 rfl rfl rfl (Nat.le_of_ble_eq_true rfl) rfl rfl ?_
    refine k_iconst C d_M_lay_70 (v := (0 : Int32)) (by decide) rfl ?_
    refine k_istore_n (lv' := [(2, .int (0 : Int32)), (0, .ref a_m), (1, .int p1)]) C d_M_lay_71 rfl (by decide) rfl rfl ?_
    have X72_0 : ∀ (l2_72 : Int32) (v_seen_72 : Nat → Int32) (v_stack_72 : Nat → Int32) (v_behind_72 : Nat → Int64) (v_ends_72 : Nat → Int32) (v_ruleOf_72 : Nat → Int32), some (v_items_j67, v_pieces_j67, v_first_j67, s1_j67, v_sort_j67, v_piece_j67, v_onward_j67, v_open_j67, v_seen_72, v_stack_72, v_bytes_j67, v_star_j67, v_behind_72, v_ends_72, v_ruleOf_72) = some (o_v_items, o_v_pieces, o_v_first, o_v_emptyOf, o_v_sort, o_v_piece, o_v_onward, o_v_open, o_v_seen, o_v_stack, o_v_bytes, o_v_star, o_v_behind, o_v_ends, o_v_ruleOf) → Wk X { frames := 4, cells := 0, slots := 0, locals := 110 } 4 D (va_A (w_M_lay (cI := cI) (cJ := cJ) (cC := cC) (cZ := cZ) (cR := cR) a_m a_typed a_glob a_length a_allows a_permissions a_many a_sort a_piece a_onward a_open a_seen a_stack a_bytes a_star a_behind a_ends a_ruleOf a_classOf a_example a_set a_given a_kind a_finer a_leads a_stateOf a_setOf v_size v_rules v_items v_pieces v_first v_emptyOf v_classes v_sets v_states v_walker v_glob v_length v_sort v_piece v_onward v_open v_seen v_stack v_bytes v_star v_behind v_ends v_ruleOf) (xs X).heap.size) 0 0 (GE X D (w_M_lay (cI := cI) (cJ := cJ) (cC := cC) (cZ := cZ) (cR := cR) a_m a_typed a_glob a_length a_allows a_permissions a_many a_sort a_piece a_onward a_open a_seen a_stack a_bytes a_star a_behind a_ends a_ruleOf a_classOf a_example a_set a_given a_kind a_finer a_leads a_stateOf a_setOf v_size v_rules v_items v_pieces v_first v_emptyOf v_classes v_sets v_states v_walker v_glob v_length v_sort v_piece v_onward v_open v_seen v_stack v_bytes v_star v_behind v_ends v_ruleOf) (fun (o : Option Value) (w : va_W) => o = none ∧ w = w_M_lay (cI := cI) (cJ := cJ) (cC := cC) (cZ := cZ) (cR := cR) a_m a_typed a_glob a_length a_allows a_permissions a_many a_sort a_piece a_onward a_open a_seen a_stack a_bytes a_star a_behind a_ends a_ruleOf a_classOf a_example a_set a_given a_kind a_finer a_leads a_stateOf a_setOf v_size v_rules o_v_items o_v_pieces o_v_first o_v_emptyOf v_classes v_sets v_states v_walker v_glob v_length o_v_sort o_v_piece o_v_onward o_v_open o_v_seen o_v_stack o_v_bytes o_v_star o_v_behind o_v_ends o_v_ruleOf) 0 0) (w_M_lay (cI := cI) (cJ := cJ) (cC := cC) (cZ := cZ) (cR := cR) a_m a_typed a_glob a_length a_allows a_permissions a_many a_sort a_piece a_onward a_open a_seen a_stack a_bytes a_star a_behind a_ends a_ruleOf a_classOf a_example a_set a_given a_kind a_finer a_leads a_stateOf a_setOf v_size v_rules v_items_j67 v_pieces_j67 v_first_j67 s1_j67 v_classes v_sets v_states v_walker v_glob v_length v_sort_j67 v_piece_j67 v_onward_j67 v_open_j67 v_seen_72 v_stack_72 v_bytes_j67 v_star_j67 v_behind_72 v_ends_72 v_ruleOf_72) [(2, .int l2_72), (0, .ref a_m), (1, .int p1)] [] 156 := by
      intro l2_72 v_seen_72 v_stack_72 v_behind_72 v_ends_72 v_ruleOf_72 h
      exact k_vret C d_M_lay_156 (tr1 h (fun t => (fun (o : Option Value) (w : va_W) => o = none ∧ w = w_M_lay (cI := cI) (cJ := cJ) (cC := cC) (cZ := cZ) (cR := cR) a_m a_typed a_glob a_length a_allows a_permissions a_many a_sort a_piece a_onward a_open a_seen a_stack a_bytes a_star a_behind a_ends a_ruleOf a_classOf a_example a_set a_given a_kind a_finer a_leads a_stateOf a_setOf v_size v_rules (t.1) (t.2.1) (t.2.2.1) (t.2.2.2.1) v_classes v_sets v_states v_walker v_glob v_length (t.2.2.2.2.1) (t.2.2.2.2.2.1) (t.2.2.2.2.2.2.1) (t.2.2.2.2.2.2.2.1) (t.2.2.2.2.2.2.2.2.1) (t.2.2.2.2.2.2.2.2.2.1) (t.2.2.2.2.2.2.2.2.2.2.1) (t.2.2.2.2.2.2.2.2.2.2.2.1) (t.2.2.2.2.2.2.2.2.2.2.2.2.1) (t.2.2.2.2.2.2.2.2.2.2.2.2.2.1) (t.2.2.2.2.2.2.2.2.2.2.2.2.2.2)) none (w_M_lay (cI := cI) (cJ := cJ) (cC := cC) (cZ := cZ) (cR := cR) a_m a_typed a_glob a_length a_allows a_permissions a_many a_sort a_piece a_onward a_open a_seen a_stack a_bytes a_star a_behind a_ends a_ruleOf a_classOf a_example a_set a_given a_kind a_finer a_leads a_stateOf a_setOf v_size v_rules v_items_j67 v_pieces_j67 v_first_j67 s1_j67 v_classes v_sets v_states v_walker v_glob v_length v_sort_j67 v_piece_j67 v_onward_j67 v_open_j67 v_seen_72 v_stack_72 v_bytes_j67 v_star_j67 v_behind_72 v_ends_72 v_ruleOf_72)) ⟨rfl, rfl⟩)
    have L72 : ∀ (kk72_0 : Int32 → (Nat → Int32) → (Nat → Int32) → (Nat → Int64) → (Nat → Int32) → (Nat → Int32) → Option (Int32 × Int32 × Int64 × Int32 × (Nat → Int32) × (Nat → Int32) × (Nat → Int32) × (Nat → Int32) × (Nat → Int32) × (Nat → Int32) × (Nat → Int64) × (Nat → Int32) × (Nat → Int64) × (Nat → Int32) × (Nat → Int32))) (hX72_0 : ∀ (l2_72 : Int32) (v_seen_72 : Nat → Int32) (v_stack_72 : Nat → Int32) (v_behind_72 : Nat → Int64) (v_ends_72 : Nat → Int32) (v_ruleOf_72 : Nat → Int32), kk72_0 l2_72 v_seen_72 v_stack_72 v_behind_72 v_ends_72 v_ruleOf_72 = some (o_v_items, o_v_pieces, o_v_first, o_v_emptyOf, o_v_sort, o_v_piece, o_v_onward, o_v_open, o_v_seen, o_v_stack, o_v_bytes, o_v_star, o_v_behind, o_v_ends, o_v_ruleOf) → Wk X { frames := 4, cells := 0, slots := 0, locals := 110 } 4 D (va_A (w_M_lay (cI := cI) (cJ := cJ) (cC := cC) (cZ := cZ) (cR := cR) a_m a_typed a_glob a_length a_allows a_permissions a_many a_sort a_piece a_onward a_open a_seen a_stack a_bytes a_star a_behind a_ends a_ruleOf a_classOf a_example a_set a_given a_kind a_finer a_leads a_stateOf a_setOf v_size v_rules v_items v_pieces v_first v_emptyOf v_classes v_sets v_states v_walker v_glob v_length v_sort v_piece v_onward v_open v_seen v_stack v_bytes v_star v_behind v_ends v_ruleOf) (xs X).heap.size) 0 0 (GE X D (w_M_lay (cI := cI) (cJ := cJ) (cC := cC) (cZ := cZ) (cR := cR) a_m a_typed a_glob a_length a_allows a_permissions a_many a_sort a_piece a_onward a_open a_seen a_stack a_bytes a_star a_behind a_ends a_ruleOf a_classOf a_example a_set a_given a_kind a_finer a_leads a_stateOf a_setOf v_size v_rules v_items v_pieces v_first v_emptyOf v_classes v_sets v_states v_walker v_glob v_length v_sort v_piece v_onward v_open v_seen v_stack v_bytes v_star v_behind v_ends v_ruleOf) (fun (o : Option Value) (w : va_W) => o = none ∧ w = w_M_lay (cI := cI) (cJ := cJ) (cC := cC) (cZ := cZ) (cR := cR) a_m a_typed a_glob a_length a_allows a_permissions a_many a_sort a_piece a_onward a_open a_seen a_stack a_bytes a_star a_behind a_ends a_ruleOf a_classOf a_example a_set a_given a_kind a_finer a_leads a_stateOf a_setOf v_size v_rules o_v_items o_v_pieces o_v_first o_v_emptyOf v_classes v_sets v_states v_walker v_glob v_length o_v_sort o_v_piece o_v_onward o_v_open o_v_seen o_v_stack o_v_bytes o_v_star o_v_behind o_v_ends o_v_ruleOf) 0 0) (w_M_lay (cI := cI) (cJ := cJ) (cC := cC) (cZ := cZ) (cR := cR) a_m a_typed a_glob a_length a_allows a_permissions a_many a_sort a_piece a_onward a_open a_seen a_stack a_bytes a_star a_behind a_ends a_ruleOf a_classOf a_example a_set a_given a_kind a_finer a_leads a_stateOf a_setOf v_size v_rules v_items_j67 v_pieces_j67 v_first_j67 s1_j67 v_classes v_sets v_states v_walker v_glob v_length v_sort_j67 v_piece_j67 v_onward_j67 v_open_j67 v_seen_72 v_stack_72 v_bytes_j67 v_star_j67 v_behind_72 v_ends_72 v_ruleOf_72) [(2, .int l2_72), (0, .ref a_m), (1, .int p1)] [] 156) (n_72 : Nat) (l2_72 : Int32) (v_seen_72 : Nat → Int32) (v_stack_72 : Nat → Int32) (v_behind_72 : Nat → Int64) (v_ends_72 : Nat → Int32) (v_ruleOf_72 : Nat → Int32), f_M_lay_L72 p1 v_items_j67 v_sort_j67 v_piece_j67 v_onward_j67 v_star_j67 fu kk72_0 n_72 l2_72 v_seen_72 v_stack_72 v_behind_72 v_ends_72 v_ruleOf_72 = some (o_v_items, o_v_pieces, o_v_first, o_v_emptyOf, o_v_sort, o_v_piece, o_v_onward, o_v_open, o_v_seen, o_v_stack, o_v_bytes, o_v_star, o_v_behind, o_v_ends, o_v_ruleOf) → Wk X { frames := 4, cells := 0, slots := 0, locals := 110 } 4 D (va_A (w_M_lay (cI := cI) (cJ := cJ) (cC := cC) (cZ := cZ) (cR := cR) a_m a_typed a_glob a_length a_allows a_permissions a_many a_sort a_piece a_onward a_open a_seen a_stack a_bytes a_star a_behind a_ends a_ruleOf a_classOf a_example a_set a_given a_kind a_finer a_leads a_stateOf a_setOf v_size v_rules v_items v_pieces v_first v_emptyOf v_classes v_sets v_states v_walker v_glob v_length v_sort v_piece v_onward v_open v_seen v_stack v_bytes v_star v_behind v_ends v_ruleOf) (xs X).heap.size) 0 0 (GE X D (w_M_lay (cI := cI) (cJ := cJ) (cC := cC) (cZ := cZ) (cR := cR) a_m a_typed a_glob a_length a_allows a_permissions a_many a_sort a_piece a_onward a_open a_seen a_stack a_bytes a_star a_behind a_ends a_ruleOf a_classOf a_example a_set a_given a_kind a_finer a_leads a_stateOf a_setOf v_size v_rules v_items v_pieces v_first v_emptyOf v_classes v_sets v_states v_walker v_glob v_length v_sort v_piece v_onward v_open v_seen v_stack v_bytes v_star v_behind v_ends v_ruleOf) (fun (o : Option Value) (w : va_W) => o = none ∧ w = w_M_lay (cI := cI) (cJ := cJ) (cC := cC) (cZ := cZ) (cR := cR) a_m a_typed a_glob a_length a_allows a_permissions a_many a_sort a_piece a_onward a_open a_seen a_stack a_bytes a_star a_behind a_ends a_ruleOf a_classOf a_example a_set a_given a_kind a_finer a_leads a_stateOf a_setOf v_size v_rules o_v_items o_v_pieces o_v_first o_v_emptyOf v_classes v_sets v_states v_walker v_glob v_length o_v_sort o_v_piece o_v_onward o_v_open o_v_seen o_v_stack o_v_bytes o_v_star o_v_behind o_v_ends o_v_ruleOf) 0 0) (w_M_lay (cI := cI) (cJ := cJ) (cC := cC) (cZ := cZ) (cR := cR) a_m a_typed a_glob a_length a_allows a_permissions a_many a_sort a_piece a_onward a_open a_seen a_stack a_bytes a_star a_behind a_ends a_ruleOf a_classOf a_example a_set a_given a_kind a_finer a_leads a_stateOf a_setOf v_size v_rules v_items_j67 v_pieces_j67 v_first_j67 s1_j67 v_classes v_sets v_states v_walker v_glob v_length v_sort_j67 v_piece_j67 v_onward_j67 v_open_j67 v_seen_72 v_stack_72 v_bytes_j67 v_star_j67 v_behind_72 v_ends_72 v_ruleOf_72) [(2, .int l2_72), (0, .ref a_m), (1, .int p1)] [] 72 := by
      intro kk72_0 hX72_0 n_72
      induction n_72 with
      | zero =>
        intro l2_72 v_seen_72 v_stack_72 v_behind_72 v_ends_72 v_ruleOf_72 h
        exact nS h
      | succ n_72 ih72 =>
        intro l2_72 v_seen_72 v_stack_72 v_behind_72 v_ends_72 v_ruleOf_72 h
        replace h := (f_M_lay_L72_s _ _ _ _ _ _ _ _ _ _ _ _ _ _ _).symm.trans h
        have J113 : ∀ (l3_j113 : Int32) (l2_j113 : Int32) (s1_j113 : Int32) (v_seen_j113 : Nat → Int32) (v_stack_j113 : Nat → Int32) (v_behind_j113 : Nat → Int64) (v_ends_j113 : Nat → Int32) (v_ruleOf_j113 : Nat → Int32), f_M_lay_J113 p1 v_items_j67 v_sort_j67 v_piece_j67 v_onward_j67 v_star_j67 fu (fun l2_72 v_seen_72 v_stack_72 v_behind_72 v_ends_72 v_ruleOf_72 => f_M_lay_L72 p1 v_items_j67 v_sort_j67 v_piece_j67 v_onward_j67 v_star_j67 fu kk72_0 n_72 l2_72 v_seen_72 v_stack_72 v_behind_72 v_ends_72 v_ruleOf_72) l3_j113 l2_j113 s1_j113 v_seen_j113 v_stack_j113 v_behind_j113 v_ends_j113 v_ruleOf_j113 = some (o_v_items, o_v_pieces, o_v_first, o_v_emptyOf, o_v_sort, o_v_piece, o_v_onward, o_v_open, o_v_seen, o_v_stack, o_v_bytes, o_v_star, o_v_behind, o_v_ends, o_v_ruleOf) → Wk X { frames := 4, cells := 0, slots := 0, locals := 110 } 4 D (va_A (w_M_lay (cI := cI) (cJ := cJ) (cC := cC) (cZ := cZ) (cR := cR) a_m a_typed a_glob a_length a_allows a_permissions a_many a_sort a_piece a_onward a_open a_seen a_stack a_bytes a_star a_behind a_ends a_ruleOf a_classOf a_example a_set a_given a_kind a_finer a_leads a_stateOf a_setOf v_size v_rules v_items v_pieces v_first v_emptyOf v_classes v_sets v_states v_walker v_glob v_length v_sort v_piece v_onward v_open v_seen v_stack v_bytes v_star v_behind v_ends v_ruleOf) (xs X).heap.size) 0 0 (GE X D (w_M_lay (cI := cI) (cJ := cJ) (cC := cC) (cZ := cZ) (cR := cR) a_m a_typed a_glob a_length a_allows a_permissions a_many a_sort a_piece a_onward a_open a_seen a_stack a_bytes a_star a_behind a_ends a_ruleOf a_classOf a_example a_set a_given a_kind a_finer a_leads a_stateOf a_setOf v_size v_rules v_items v_pieces v_first v_emptyOf v_classes v_sets v_states v_walker v_glob v_length v_sort v_piece v_onward v_open v_seen v_stack v_bytes v_star v_behind v_ends v_ruleOf) (fun (o : Option Value) (w : va_W) => o = none ∧ w = w_M_lay (cI := cI) (cJ := cJ) (cC := cC) (cZ := cZ) (cR := cR) a_m a_typed a_glob a_length a_allows a_permissions a_many a_sort a_piece a_onward a_open a_seen a_stack a_bytes a_star a_behind a_ends a_ruleOf a_classOf a_example a_set a_given a_kind a_finer a_leads a_stateOf a_setOf v_size v_rules o_v_items o_v_pieces o_v_first o_v_emptyOf v_classes v_sets v_states v_walker v_glob v_length o_v_sort o_v_piece o_v_onward o_v_open o_v_seen o_v_stack o_v_bytes o_v_star o_v_behind o_v_ends o_v_ruleOf) 0 0) (w_M_lay (cI := cI) (cJ := cJ) (cC := cC) (cZ := cZ) (cR := cR) a_m a_typed a_glob a_length a_allows a_permissions a_many a_sort a_piece a_onward a_open a_seen a_stack a_bytes a_star a_behind a_ends a_ruleOf a_classOf a_example a_set a_given a_kind a_finer a_leads a_stateOf a_setOf v_size v_rules v_items_j67 v_pieces_j67 v_first_j67 s1_j67 v_classes v_sets v_states v_walker v_glob v_length v_sort_j67 v_piece_j67 v_onward_j67 v_open_j67 v_seen_j113 v_stack_j113 v_bytes_j67 v_star_j67 v_behind_j113 v_ends_j113 v_ruleOf_j113) [(3, .int l3_j113), (2, .int l2_j113), (0, .ref a_m), (1, .int p1)] [.int s1_j113, .ref a_m] 113 := by
          intro l3_j113 l2_j113 s1_j113 v_seen_j113 v_stack_j113 v_behind_j113 v_ends_j113 v_ruleOf_j113 h
          obtain ⟨⟨yv_seen_1, yv_stack_2⟩, hc3, h⟩ := bd h
          refine k_callVd (As := [.int s1_j113]) (st := []) (st' := []) (wn := w_M_lay (cI := cI) (cJ := cJ) (cC := cC) (cZ := cZ) (cR := cR) a_m a_typed a_glob a_length a_allows a_permissions a_many a_sort a_piece a_onward a_open a_seen a_stack a_bytes a_star a_behind a_ends a_ruleOf a_classOf a_example a_set a_given a_kind a_finer a_leads a_stateOf a_setOf v_size v_rules v_items_j67 v_pieces_j67 v_first_j67 s1_j67 v_classes v_sets v_states v_walker v_glob v_length v_sort_j67 v_piece_j67 v_onward_j67 v_open_j67 yv_seen_1 yv_stack_2 v_bytes_j67 v_star_j67 v_behind_j113 v_ends_j113 v_ruleOf_j113) C d_M_lay_113 (c_M_spread fu a_m a_typed a_glob a_length a_allows a_permissions a_many a_sort a_piece a_onward a_open a_seen a_stack a_bytes a_star a_behind a_ends a_ruleOf a_classOf a_example a_set a_given a_kind a_finer a_leads a_stateOf a_setOf v_size v_rules v_items_j67 v_pieces_j67 v_first_j67 s1_j67 v_classes v_sets v_states v_walker v_sort_j67 v_piece_j67 v_onward_j67 v_seen_j113 v_stack_j113 v_star_j67 s1_j113 yv_seen_1 yv_stack_2 hc3) co_M_spread cov_M_spread mw29 0 rfl rfl (by decide) (by decide) (Nat.le_of_ble_eq_true rfl) rfl [0, 3, 4, 5, 7, 8, 10] [1, 2, 6, 9, 11, 12, 13] [7, 0, 1, 8, 9, 10, 2, 11, 12, 3, 13, 4, 5, 6] rfl (by decide +kernel) rfl (by decide +kernel) (by decide +kernel) rfl (by decide +kernel) rfl rfl ?_
          refine k_aload_n C d_M_lay_116 rfl 2 rfl rfl ?_
          refine k_getf C d_M_lay_117 hin_M rfl 18 (by decide) mw26 0 rfl rfl rfl ?_
          refine k_iload_n C d_M_lay_120 rfl 0 rfl rfl ?_
          refine k_aload_n C d_M_lay_121 rfl 2 rfl rfl ?_
          obtain ⟨r4, hc5, h⟩ := bd h
          refine k_callVd (As := []) (st := [.int l3_j113, .ref a_behind]) (st' := [.long r4, .int l3_j113, .ref a_behind]) (wn := w_M_lay (cI := cI) (cJ := cJ) (cC := cC) (cZ := cZ) (cR := cR) a_m a_typed a_glob a_length a_allows a_permissions a_many a_sort a_piece a_onward a_open a_seen a_stack a_bytes a_star a_behind a_ends a_ruleOf a_classOf a_example a_set a_given a_kind a_finer a_leads a_stateOf a_setOf v_size v_rules v_items_j67 v_pieces_j67 v_first_j67 s1_j67 v_classes v_sets v_states v_walker v_glob v_length v_sort_j67 v_piece_j67 v_onward_j67 v_open_j67 yv_seen_1 yv_stack_2 v_bytes_j67 v_star_j67 v_behind_j113 v_ends_j113 v_ruleOf_j113) C d_M_lay_122 (c_M_marked fu a_m a_typed a_glob a_length a_allows a_permissions a_many a_sort a_piece a_onward a_open a_seen a_stack a_bytes a_star a_behind a_ends a_ruleOf a_classOf a_example a_set a_given a_kind a_finer a_leads a_stateOf a_setOf v_size v_rules v_items_j67 v_pieces_j67 v_first_j67 s1_j67 v_classes v_sets v_states v_walker v_sort_j67 v_piece_j67 yv_seen_1 r4 hc5) co_M_marked cov_M_marked mw30 0 rfl rfl (by decide) (by decide) (Nat.le_of_ble_eq_true rfl) rfl [0, 3, 4, 7] [1, 2, 5, 6, 8, 9, 10, 11, 12, 13] [10, 0, 1, 11, 12, 2, 3, 13, 4, 5, 6, 7, 8, 9] rfl (by decide +kernel) rfl (by decide +kernel) (by decide +kernel) rfl (by decide +kernel) rfl rfl ?_
          have g6 := gd1 h
          replace h := gd2 h
          refine k_last (ws' := w_M_lay (cI := cI) (cJ := cJ) (cC := cC) (cZ := cZ) (cR := cR) a_m a_typed a_glob a_length a_allows a_permissions a_many a_sort a_piece a_onward a_open a_seen a_stack a_bytes a_star a_behind a_ends a_ruleOf a_classOf a_example a_set a_given a_kind a_finer a_leads a_stateOf a_setOf v_size v_rules v_items_j67 v_pieces_j67 v_first_j67 s1_j67 v_classes v_sets v_states v_walker v_glob v_length v_sort_j67 v_piece_j67 v_onward_j67 v_open_j67 yv_seen_1 yv_stack_2 v_bytes_j67 v_star_j67 (vp_updL v_behind_j113 l3_j113.toNatClampNeg r4) v_ends_j113 v_ruleOf_j113) C d_M_lay_125 11 1 rfl rfl (inB_in g6) rfl rfl ?_
          refine k_aload_n C d_M_lay_126 rfl 2 rfl rfl ?_
          refine k_getf C d_M_lay_127 hin_M rfl 19 (by decide) mw27 0 rfl rfl rfl ?_
          refine k_iload_n C d_M_lay_130 rfl 0 rfl rfl ?_
          refine k_aload_n C d_M_lay_131 rfl 2 rfl rfl ?_
          refine k_getf C d_M_lay_132 hin_M rfl 13 (by decide) mw19 0 rfl rfl rfl ?_
          refine k_aload_n C d_M_lay_135 rfl 2 rfl rfl ?_
          refine k_getf C d_M_lay_136 hin_M rfl 8 (by decide) mw4 0 rfl rfl rfl ?_
          refine k_iconst C d_M_lay_139 (v := (1 : Int32)) (by decide) rfl ?_
          refine k_isub C d_M_lay_140 rfl ?_
          have g7 := gd1 h
          replace h := gd2 h
          refine k_zald C d_M_lay_141 7 3 rfl rfl (inB_in g7) rfl ?_
          have g8 := gd1 h
          replace h := gd2 h
          refine k_zast (ws' := w_M_lay (cI := cI) (cJ := cJ) (cC := cC) (cZ := cZ) (cR := cR) a_m a_typed a_glob a_length a_allows a_permissions a_many a_sort a_piece a_onward a_open a_seen a_stack a_bytes a_star a_behind a_ends a_ruleOf a_classOf a_example a_set a_given a_kind a_finer a_leads a_stateOf a_setOf v_size v_rules v_items_j67 v_pieces_j67 v_first_j67 s1_j67 v_classes v_sets v_states v_walker v_glob v_length v_sort_j67 v_piece_j67 v_onward_j67 v_open_j67 yv_seen_1 yv_stack_2 v_bytes_j67 v_star_j67 (vp_updL v_behind_j113 l3_j113.toNatClampNeg r4) (upd v_ends_j113 l3_j113.toNatClampNeg (vp_nar .boolean (yv_seen_1 (v_items_j67 - (1 : Int32)).toNatClampNeg))) v_ruleOf_j113) C d_M_lay_142 12 3 rfl rfl (inB_in g8) rfl rfl ?_
          refine k_aload_n C d_M_lay_143 rfl 2 rfl rfl ?_
          refine k_getf C d_M_lay_144 hin_M rfl 20 (by decide) mw28 0 rfl rfl rfl ?_
          refine k_iload_n C d_M_lay_147 rfl 0 rfl rfl ?_
          refine k_iload_n C d_M_lay_148 rfl 3 rfl rfl ?_
          have g9 := gd1 h
          replace h := gd2 h
          refine k_iast (ws' := w_M_lay (cI := cI) (cJ := cJ) (cC := cC) (cZ := cZ) (cR := cR) a_m a_typed a_glob a_length a_allows a_permissions a_many a_sort a_piece a_onward a_open a_seen a_stack a_bytes a_star a_behind a_ends a_ruleOf a_classOf a_example a_set a_given a_kind a_finer a_leads a_stateOf a_setOf v_size v_rules v_items_j67 v_pieces_j67 v_first_j67 s1_j67 v_classes v_sets v_states v_walker v_glob v_length v_sort_j67 v_piece_j67 v_onward_j67 v_open_j67 yv_seen_1 yv_stack_2 v_bytes_j67 v_star_j67 (vp_updL v_behind_j113 l3_j113.toNatClampNeg r4) (upd v_ends_j113 l3_j113.toNatClampNeg (vp_nar .boolean (yv_seen_1 (v_items_j67 - (1 : Int32)).toNatClampNeg))) (upd v_ruleOf_j113 l3_j113.toNatClampNeg p1)) C d_M_lay_149 13 0 rfl rfl (inB_in g9) rfl rfl ?_
          refine k_iinc (lv' := [(2, .int (l2_j113 + 1)), (3, .int l3_j113), (0, .ref a_m), (1, .int p1)]) C d_M_lay_150 1 rfl rfl (by decide) rfl rfl ?_
          refine k_goto (tgt := 72) C d_M_lay_153 (by decide) ?_
          refine k_lpk [0, 2, 3] rfl ?_
          exact ih72 (l2_j113 + 1) yv_seen_1 yv_stack_2 (vp_updL v_behind_j113 l3_j113.toNatClampNeg r4) (upd v_ends_j113 l3_j113.toNatClampNeg (vp_nar .boolean (yv_seen_1 (v_items_j67 - (1 : Int32)).toNatClampNeg))) (upd v_ruleOf_j113 l3_j113.toNatClampNeg p1) h
        refine k_iload_n C d_M_lay_72 rfl 0 rfl rfl ?_
        refine k_aload_n C d_M_lay_73 rfl 1 rfl rfl ?_
        refine k_getf C d_M_lay_74 hin_M rfl 8 (by decide) mw4 0 rfl rfl rfl ?_
        refine k_icmp_ge (tgt := 156) C d_M_lay_77 (by decide) rfl (fun c10 => ?_) (fun c10 => ?_)
        · replace h := gi_t h c10
          exact hX72_0 l2_72 v_seen_72 v_stack_72 v_behind_72 v_ends_72 v_ruleOf_72 h
        · replace h := gi_f h c10
          refine k_aload_n C d_M_lay_80 rfl 1 rfl rfl ?_
          refine k_getf C d_M_lay_81 hin_M rfl 9 (by decide) mw3 0 rfl rfl rfl ?_
          refine k_iload_n C d_M_lay_84 rfl 0 rfl rfl ?_
          have g11 := gd1 h
          replace h := gd2 h
          refine k_iald C d_M_lay_85 3 0 rfl rfl (inB_in g11) rfl ?_
          refine k_if_ne (tgt := 150) C d_M_lay_86 (by decide) rfl (fun c12 => ?_) (fun c12 => ?_)
          · replace h := gi_f h c12
            refine k_iinc (lv' := [(2, .int (l2_72 + 1)), (0, .ref a_m), (1, .int p1)]) C d_M_lay_150 0 rfl rfl (by decide) rfl rfl ?_
            refine k_goto (tgt := 72) C d_M_lay_153 (by decide) ?_
            exact ih72 (l2_72 + 1) v_seen_72 v_stack_72 v_behind_72 v_ends_72 v_ruleOf_72 h
          · replace h := gi_t h c12
            refine k_aload_n C d_M_lay_89 rfl 1 rfl rfl ?_
            refine k_getf C d_M_lay_90 hin_M rfl 10 (by decide) mw5 0 rfl rfl rfl ?_
            refine k_iload_n C d_M_lay_93 rfl 0 rfl rfl ?_
            have g13 := gd1 h
            replace h := gd2 h
            refine k_iald C d_M_lay_94 4 0 rfl rfl (inB_in g13) rfl ?_
            refine k_istore_n (lv' := [(3, .int (v_piece_j67 l2_72.toNatClampNeg)), (2, .int l2_72), (0, .ref a_m), (1, .int p1)]) C d_M_lay_95 rfl (by decide) rfl rfl ?_
            refine k_aload_n C d_M_lay_96 rfl 2 rfl rfl ?_
            refine k_aload_n C d_M_lay_97 rfl 2 rfl rfl ?_
            refine k_getf C d_M_lay_98 hin_M rfl 17 (by decide) mw9 0 rfl rfl rfl ?_
            refine k_iload_n C d_M_lay_101 rfl 0 rfl rfl ?_
            have g14 := gd1 h
            replace h := gd2 h
            refine k_zald C d_M_lay_102 10 3 rfl rfl (inB_in g14) rfl ?_
            refine k_if_eq (tgt := 110) C d_M_lay_103 (by decide) rfl (fun c15 => ?_) (fun c15 => ?_)
            · replace h := gi_t h c15
              refine k_iload_n C d_M_lay_110 rfl 1 rfl rfl ?_
              refine k_iconst C d_M_lay_111 (v := (1 : Int32)) (by decide) rfl ?_
              refine k_iadd C d_M_lay_112 rfl ?_
              exact J113 (v_piece_j67 l2_72.toNatClampNeg) l2_72 (l2_72 + (1 : Int32)) v_seen_72 v_stack_72 v_behind_72 v_ends_72 v_ruleOf_72 h
            · replace h := gi_f h c15
              refine k_iload_n C d_M_lay_106 rfl 1 rfl rfl ?_
              refine k_goto (tgt := 113) C d_M_lay_107 (by decide) ?_
              exact J113 (v_piece_j67 l2_72.toNatClampNeg) l2_72 l2_72 v_seen_72 v_stack_72 v_behind_72 v_ends_72 v_ruleOf_72 h
    exact L72 (fun l2_72 v_seen_72 v_stack_72 v_behind_72 v_ends_72 v_ruleOf_72 => some (v_items_j67, v_pieces_j67, v_first_j67, s1_j67, v_sort_j67, v_piece_j67, v_onward_j67, v_open_j67, v_seen_72, v_stack_72, v_bytes_j67, v_star_j67, v_behind_72, v_ends_72, v_ruleOf_72)) X72_0 fu (0 : Int32) v_seen_j67 v_stack_j67 v_behind_j67 v_ends_j67 v_ruleOf_j67 h
  refine k_aload_n C d_M_lay_0 rfl 0 rfl rfl ?_
  refine k_aload_n C d_M_lay_1 rfl 0 rfl rfl ?_
  refine k_getf C d_M_lay_2 hin_M rfl 3 (by decide) mw22 0 rfl rfl rfl ?_
  refine k_bipush C d_M_lay_5 (v := (40 : Int32)) (by decide) rfl ?_
  refine k_iload_n C d_M_lay_7 rfl 1 rfl rfl ?_
  refine k_imul C d_M_lay_8 rfl ?_
  refine k_aload_n C d_M_lay_9 rfl 0 rfl rfl ?_
  refine k_getf C d_M_lay_10 hin_M rfl 4 (by decide) mw23 0 rfl rfl rfl ?_
  refine k_iload_n C d_M_lay_13 rfl 1 rfl rfl ?_
  have g16 := gd1 h
  replace h := gd2 h
  refine k_iald C d_M_lay_14 2 0 rfl rfl (inB_in g16) rfl ?_
  obtain ⟨⟨r17, yv_items_18, yv_pieces_19, yv_sort_20, yv_piece_21, yv_onward_22, yv_open_23, yv_bytes_24, yv_star_25⟩, hc26, h⟩ := bd h
  refine k_callVd (As := [.ref a_glob, .int ((40 : Int32) * p1), .int (v_length p1.toNatClampNeg)]) (st := []) (st' := [.int r17]) (wn := w_M_lay (cI := cI) (cJ := cJ) (cC := cC) (cZ := cZ) (cR := cR) a_m a_typed a_glob a_length a_allows a_permissions a_many a_sort a_piece a_onward a_open a_seen a_stack a_bytes a_star a_behind a_ends a_ruleOf a_classOf a_example a_set a_given a_kind a_finer a_leads a_stateOf a_setOf v_size v_rules yv_items_18 yv_pieces_19 v_first v_emptyOf v_classes v_sets v_states v_walker v_glob v_length yv_sort_20 yv_piece_21 yv_onward_22 yv_open_23 v_seen v_stack yv_bytes_24 yv_star_25 v_behind v_ends v_ruleOf) C d_M_lay_15 (c_M_read fu a_m a_typed a_glob a_length a_allows a_permissions a_many a_sort a_piece a_onward a_open a_seen a_stack a_bytes a_star a_behind a_ends a_ruleOf a_classOf a_example a_set a_given a_kind a_finer a_leads a_stateOf a_setOf a_glob 240 v_size v_rules v_items v_pieces v_first v_emptyOf v_classes v_sets v_states v_walker v_sort v_piece v_onward v_open v_bytes v_star v_glob ((40 : Int32) * p1) (v_length p1.toNatClampNeg) r17 yv_items_18 yv_pieces_19 yv_sort_20 yv_piece_21 yv_onward_22 yv_open_23 yv_bytes_24 yv_star_25 hc26) co_M_read cov_M_read mw31 0 rfl rfl (by decide) (by decide) (Nat.le_of_ble_eq_true rfl) rfl [0, 3, 4, 5, 6, 9, 10, 1] [2, 7, 8, 11, 12, 13] [6, 13, 0, 7, 8, 9, 10, 1, 2, 11, 12, 3, 4, 5] rfl (by decide +kernel) rfl (by decide +kernel) (by decide +kernel) rfl (by decide +kernel) rfl rfl ?_
  refine k_pop C d_M_lay_18 rfl rfl ?_
  refine k_aload_n C d_M_lay_19 rfl 0 rfl rfl ?_
  refine k_iconst C d_M_lay_20 (v := (0 : Int32)) (by decide) rfl ?_
  obtain ⟨⟨yv_seen_27, yv_stack_28⟩, hc29, h⟩ := bd h
  refine k_callVd (As := [.int (0 : Int32)]) (st := []) (st' := []) (wn := w_M_lay (cI := cI) (cJ := cJ) (cC := cC) (cZ := cZ) (cR := cR) a_m a_typed a_glob a_length a_allows a_permissions a_many a_sort a_piece a_onward a_open a_seen a_stack a_bytes a_star a_behind a_ends a_ruleOf a_classOf a_example a_set a_given a_kind a_finer a_leads a_stateOf a_setOf v_size v_rules yv_items_18 yv_pieces_19 v_first v_emptyOf v_classes v_sets v_states v_walker v_glob v_length yv_sort_20 yv_piece_21 yv_onward_22 yv_open_23 yv_seen_27 yv_stack_28 yv_bytes_24 yv_star_25 v_behind v_ends v_ruleOf) C d_M_lay_21 (c_M_spread fu a_m a_typed a_glob a_length a_allows a_permissions a_many a_sort a_piece a_onward a_open a_seen a_stack a_bytes a_star a_behind a_ends a_ruleOf a_classOf a_example a_set a_given a_kind a_finer a_leads a_stateOf a_setOf v_size v_rules yv_items_18 yv_pieces_19 v_first v_emptyOf v_classes v_sets v_states v_walker yv_sort_20 yv_piece_21 yv_onward_22 v_seen v_stack yv_star_25 (0 : Int32) yv_seen_27 yv_stack_28 hc29) co_M_spread cov_M_spread mw29 0 rfl rfl (by decide) (by decide) (Nat.le_of_ble_eq_true rfl) rfl [0, 3, 4, 5, 7, 8, 10] [1, 2, 6, 9, 11, 12, 13] [7, 0, 1, 8, 9, 10, 2, 11, 12, 3, 13, 4, 5, 6] rfl (by decide +kernel) rfl (by decide +kernel) (by decide +kernel) rfl (by decide +kernel) rfl rfl ?_
  refine k_aload_n C d_M_lay_24 rfl 0 rfl rfl ?_
  refine k_aload_n C d_M_lay_25 rfl 0 rfl rfl ?_
  refine k_getf C d_M_lay_26 hin_M rfl 21 (by decide) mw24 0 rfl rfl rfl ?_
  refine k_aload_n C d_M_lay_29 rfl 0 rfl rfl ?_
  obtain ⟨r30, hc31, h⟩ := bd h
  refine k_callVd (As := []) (st := [.long v_first, .ref a_m]) (st' := [.long r30, .long v_first, .ref a_m]) (wn := w_M_lay (cI := cI) (cJ := cJ) (cC := cC) (cZ := cZ) (cR := cR) a_m a_typed a_glob a_length a_allows a_permissions a_many a_sort a_piece a_onward a_open a_seen a_stack a_bytes a_star a_behind a_ends a_ruleOf a_classOf a_example a_set a_given a_kind a_finer a_leads a_stateOf a_setOf v_size v_rules yv_items_18 yv_pieces_19 v_first v_emptyOf v_classes v_sets v_states v_walker v_glob v_length yv_sort_20 yv_piece_21 yv_onward_22 yv_open_23 yv_seen_27 yv_stack_28 yv_bytes_24 yv_star_25 v_behind v_ends v_ruleOf) C d_M_lay_30 (c_M_marked fu a_m a_typed a_glob a_length a_allows a_permissions a_many a_sort a_piece a_onward a_open a_seen a_stack a_bytes a_star a_behind a_ends a_ruleOf a_classOf a_example a_set a_given a_kind a_finer a_leads a_stateOf a_setOf v_size v_rules yv_items_18 yv_pieces_19 v_first v_emptyOf v_classes v_sets v_states v_walker yv_sort_20 yv_piece_21 yv_seen_27 r30 hc31) co_M_marked cov_M_marked mw30 0 rfl rfl (by decide) (by decide) (Nat.le_of_ble_eq_true rfl) rfl [0, 3, 4, 7] [1, 2, 5, 6, 8, 9, 10, 11, 12, 13] [10, 0, 1, 11, 12, 2, 3, 13, 4, 5, 6, 7, 8, 9] rfl (by decide +kernel) rfl (by decide +kernel) (by decide +kernel) rfl (by decide +kernel) rfl rfl ?_
  refine k_lor C d_M_lay_33 rfl ?_
  refine k_putf (ws' := w_M_lay (cI := cI) (cJ := cJ) (cC := cC) (cZ := cZ) (cR := cR) a_m a_typed a_glob a_length a_allows a_permissions a_many a_sort a_piece a_onward a_open a_seen a_stack a_bytes a_star a_behind a_ends a_ruleOf a_classOf a_example a_set a_given a_kind a_finer a_leads a_stateOf a_setOf v_size v_rules yv_items_18 yv_pieces_19 (v_first ||| r30) v_emptyOf v_classes v_sets v_states v_walker v_glob v_length yv_sort_20 yv_piece_21 yv_onward_22 yv_open_23 yv_seen_27 yv_stack_28 yv_bytes_24 yv_star_25 v_behind v_ends v_ruleOf) C d_M_lay_34 hin_M hty_M hnn_M rfl 21 (by decide) mw24 rfl 0 rfl rfl rfl (Nat.le_of_ble_eq_true rfl) rfl rfl ?_
  refine k_aload_n C d_M_lay_37 rfl 0 rfl rfl ?_
  refine k_aload_n C d_M_lay_38 rfl 0 rfl rfl ?_
  refine k_getf C d_M_lay_39 hin_M rfl 13 (by decide) mw19 0 rfl rfl rfl ?_
  refine k_aload_n C d_M_lay_42 rfl 0 rfl rfl ?_
  refine k_getf C d_M_lay_43 hin_M rfl 8 (by decide) mw4 0 rfl rfl rfl ?_
  refine k_iconst C d_M_lay_46 (v := (1 : Int32)) (by decide) rfl ?_
  refine k_isub C d_M_lay_47 rfl ?_
  have g32 := gd1 h
  replace h := gd2 h
  refine k_zald C d_M_lay_48 7 3 rfl rfl (inB_in g32) rfl ?_
  refine k_if_eq (tgt := 63) C d_M_lay_49 (by decide) rfl (fun c33 => ?_) (fun c33 => ?_)
  · replace h := gi_t h c33
    refine k_aload_n C d_M_lay_63 rfl 0 rfl rfl ?_
    refine k_getf C d_M_lay_64 hin_M rfl 22 (by decide) mw25 0 rfl rfl rfl ?_
    exact J67 v_emptyOf yv_items_18 yv_pieces_19 (v_first ||| r30) v_emptyOf yv_sort_20 yv_piece_21 yv_onward_22 yv_open_23 yv_seen_27 yv_stack_28 yv_bytes_24 yv_star_25 v_behind v_ends v_ruleOf h
  · replace h := gi_f h c33
    refine k_aload_n C d_M_lay_52 rfl 0 rfl rfl ?_
    refine k_getf C d_M_lay_53 hin_M rfl 22 (by decide) mw25 0 rfl rfl rfl ?_
    refine k_iconst C d_M_lay_56 (v := (1 : Int32)) (by decide) rfl ?_
    refine k_iload_n C d_M_lay_57 rfl 1 rfl rfl ?_
    refine k_ishl C d_M_lay_58 rfl ?_
    refine k_ior C d_M_lay_59 rfl ?_
    refine k_goto (tgt := 67) C d_M_lay_60 (by decide) ?_
    exact J67 (v_emptyOf ||| ((1 : Int32) <<< (p1 &&& 31))) yv_items_18 yv_pieces_19 (v_first ||| r30) v_emptyOf yv_sort_20 yv_piece_21 yv_onward_22 yv_open_23 yv_seen_27 yv_stack_28 yv_bytes_24 yv_star_25 v_behind v_ends v_ruleOf h
theorem d_M_allPieces_0 : decode b_M_allPieces 0 = .ok (.iconst 0, 1) := by decide +kernel
theorem d_M_allPieces_1 : decode b_M_allPieces 1 = .ok (.istore_n 1, 1) := by decide +kernel
theorem d_M_allPieces_2 : decode b_M_allPieces 2 = .ok (.iconst 0, 1) := by decide +kernel
theorem d_M_allPieces_3 : decode b_M_allPieces 3 = .ok (.istore_n 2, 1) := by decide +kernel
theorem d_M_allPieces_4 : decode b_M_allPieces 4 = .ok (.iload_n 2, 1) := by decide +kernel
theorem d_M_allPieces_5 : decode b_M_allPieces 5 = .ok (.aload_n 0, 1) := by decide +kernel
theorem d_M_allPieces_6 : decode b_M_allPieces 6 = .ok (.getfield 155, 3) := by decide +kernel
theorem d_M_allPieces_9 : decode b_M_allPieces 9 = .ok (.if_icmp .ge 18, 3) := by decide +kernel
theorem d_M_allPieces_12 : decode b_M_allPieces 12 = .ok (.iload_n 1, 1) := by decide +kernel
theorem d_M_allPieces_13 : decode b_M_allPieces 13 = .ok (.aload_n 0, 1) := by decide +kernel
theorem d_M_allPieces_14 : decode b_M_allPieces 14 = .ok (.getfield 26, 3) := by decide +kernel
theorem d_M_allPieces_17 : decode b_M_allPieces 17 = .ok (.iload_n 2, 1) := by decide +kernel
theorem d_M_allPieces_18 : decode b_M_allPieces 18 = .ok (.iaload, 1) := by decide +kernel
theorem d_M_allPieces_19 : decode b_M_allPieces 19 = .ok (.iadd, 1) := by decide +kernel
theorem d_M_allPieces_20 : decode b_M_allPieces 20 = .ok (.istore_n 1, 1) := by decide +kernel
theorem d_M_allPieces_21 : decode b_M_allPieces 21 = .ok (.iinc 2 1, 3) := by decide +kernel
theorem d_M_allPieces_24 : decode b_M_allPieces 24 = .ok (.goto (-20), 3) := by decide +kernel
theorem d_M_allPieces_27 : decode b_M_allPieces 27 = .ok (.iload_n 1, 1) := by decide +kernel
theorem d_M_allPieces_28 : decode b_M_allPieces 28 = .ok (.ireturn, 1) := by decide +kernel
abbrev w_M_allPieces {cI cJ cC cZ cR : ClassId} (a_m a_typed a_glob a_length a_allows a_permissions a_many a_sort a_piece a_onward a_open a_seen a_stack a_bytes a_star a_behind a_ends a_ruleOf a_classOf a_example a_set a_given a_kind a_finer a_leads a_stateOf a_setOf : Nat) (v_size : Int32) (v_rules : Int32) (v_items : Int32) (v_pieces : Int32) (v_first : Int64) (v_emptyOf : Int32) (v_classes : Int32) (v_sets : Int32) (v_states : Int32) (v_walker : Int32) (v_many : Nat → Int32) : va_W := [(a_m, .inr (8, [.ref a_typed, .int v_size, .int v_rules, .ref a_glob, .ref a_length, .ref a_allows, .ref a_permissions, .ref a_many, .int v_items, .ref a_sort, .ref a_piece, .ref a_onward, .ref a_open, .ref a_seen, .ref a_stack, .int v_pieces, .ref a_bytes, .ref a_star, .ref a_behind, .ref a_ends, .ref a_ruleOf, .long v_first, .int v_emptyOf, .int v_classes, .ref a_classOf, .ref a_example, .int v_sets, .ref a_set, .ref a_given, .ref a_kind, .ref a_finer, .ref a_leads, .int v_states, .ref a_stateOf, .ref a_setOf, .int v_walker])), (a_many, .inl (cI, 6, .inl v_many))]
def f_M_allPieces_L4 (v_rules : Int32) (v_many : Nat → Int32) (kk4_0 : Int32 → Int32 → Option (Int32)) : Nat → Int32 → Int32 → Option (Int32)
  | 0, _, _ => none
  | n_4 + 1, l2_4, l1_4 => (if v_rules ≤ l2_4 then (kk4_0 l2_4 l1_4) else (if inB l2_4 6 = true then (f_M_allPieces_L4 v_rules v_many kk4_0 n_4 (l2_4 + 1) (l1_4 + (v_many l2_4.toNatClampNeg))) else none))
theorem f_M_allPieces_L4_s (v_rules : Int32) (v_many : Nat → Int32) (kk4_0 : Int32 → Int32 → Option (Int32)) (n_4 : Nat) (l2_4 : Int32) (l1_4 : Int32) : f_M_allPieces_L4 v_rules v_many kk4_0 (n_4 + 1) l2_4 l1_4 = (if v_rules ≤ l2_4 then (kk4_0 l2_4 l1_4) else (if inB l2_4 6 = true then (f_M_allPieces_L4 v_rules v_many kk4_0 n_4 (l2_4 + 1) (l1_4 + (v_many l2_4.toNatClampNeg))) else none)) := rfl
def f_M_allPieces (fu : Nat) (v_rules : Int32) (v_many : Nat → Int32) : Option (Int32) := (f_M_allPieces_L4 v_rules v_many (fun l2_4 l1_4 => some l1_4) fu (0 : Int32) (0 : Int32))
set_option maxRecDepth 100000 in
set_option maxHeartbeats 4000000 in
theorem c_M_allPieces {l : Launch} {D : va_G} {cI cJ cC cZ cR : ClassId} (fu : Nat) (a_m a_typed a_glob a_length a_allows a_permissions a_many a_sort a_piece a_onward a_open a_seen a_stack a_bytes a_star a_behind a_ends a_ruleOf a_classOf a_example a_set a_given a_kind a_finer a_leads a_stateOf a_setOf : Nat)   (v_size : Int32) (v_rules : Int32) (v_items : Int32) (v_pieces : Int32) (v_first : Int64) (v_emptyOf : Int32) (v_classes : Int32) (v_sets : Int32) (v_states : Int32) (v_walker : Int32) (v_many : Nat → Int32)  (o_r : Int32) (h : f_M_allPieces fu v_rules v_many = some o_r) : GM l D (tysL cI cJ cC cZ cR) y_M_allPieces b_M_allPieces 3 (some (.int)) { frames := 0, cells := 0, slots := 0, locals := 0 } [.ref a_m] (w_M_allPieces (cI := cI) (cJ := cJ) (cC := cC) (cZ := cZ) (cR := cR) a_m a_typed a_glob a_length a_allows a_permissions a_many a_sort a_piece a_onward a_open a_seen a_stack a_bytes a_star a_behind a_ends a_ruleOf a_classOf a_example a_set a_given a_kind a_finer a_leads a_stateOf a_setOf v_size v_rules v_items v_pieces v_first v_emptyOf v_classes v_sets v_states v_walker v_many) (fun (o : Option Value) (w : va_W) => o = some (.int o_r) ∧ w = w_M_allPieces (cI := cI) (cJ := cJ) (cC := cC) (cZ := cZ) (cR := cR) a_m a_typed a_glob a_length a_allows a_permissions a_many a_sort a_piece a_onward a_open a_seen a_stack a_bytes a_star a_behind a_ends a_ruleOf a_classOf a_example a_set a_given a_kind a_finer a_leads a_stateOf a_setOf v_size v_rules v_items v_pieces v_first v_emptyOf v_classes v_sets v_states v_walker v_many) := by
  refine GM.of (by decide) (Nat.le_of_ble_eq_true rfl) (lv := [(0, .ref a_m)]) rfl ?_
  intro X hX C
  subst hX
  refine k_iconst C d_M_allPieces_0 (v := (0 : Int32)) (by decide) rfl ?_
  refine k_istore_n (lv' := [(1, .int (0 : Int32)), (0, .ref a_m)]) C d_M_allPieces_1 rfl (by decide) rfl rfl ?_
  refine k_iconst C d_M_allPieces_2 (v := (0 : Int32)) (by decide) rfl ?_
  refine k_istore_n (lv' := [(2, .int (0 : Int32)), (1, .int (0 : Int32)), (0, .ref a_m)]) C d_M_allPieces_3 rfl (by decide) rfl rfl ?_
  have X4_0 : ∀ (l2_4 : Int32) (l1_4 : Int32), some l1_4 = some o_r → Wk X { frames := 0, cells := 0, slots := 0, locals := 0 } 3 D (va_A (w_M_allPieces (cI := cI) (cJ := cJ) (cC := cC) (cZ := cZ) (cR := cR) a_m a_typed a_glob a_length a_allows a_permissions a_many a_sort a_piece a_onward a_open a_seen a_stack a_bytes a_star a_behind a_ends a_ruleOf a_classOf a_example a_set a_given a_kind a_finer a_leads a_stateOf a_setOf v_size v_rules v_items v_pieces v_first v_emptyOf v_classes v_sets v_states v_walker v_many) (xs X).heap.size) 0 0 (GE X D (w_M_allPieces (cI := cI) (cJ := cJ) (cC := cC) (cZ := cZ) (cR := cR) a_m a_typed a_glob a_length a_allows a_permissions a_many a_sort a_piece a_onward a_open a_seen a_stack a_bytes a_star a_behind a_ends a_ruleOf a_classOf a_example a_set a_given a_kind a_finer a_leads a_stateOf a_setOf v_size v_rules v_items v_pieces v_first v_emptyOf v_classes v_sets v_states v_walker v_many) (fun (o : Option Value) (w : va_W) => o = some (.int o_r) ∧ w = w_M_allPieces (cI := cI) (cJ := cJ) (cC := cC) (cZ := cZ) (cR := cR) a_m a_typed a_glob a_length a_allows a_permissions a_many a_sort a_piece a_onward a_open a_seen a_stack a_bytes a_star a_behind a_ends a_ruleOf a_classOf a_example a_set a_given a_kind a_finer a_leads a_stateOf a_setOf v_size v_rules v_items v_pieces v_first v_emptyOf v_classes v_sets v_states v_walker v_many) 0 0) (w_M_allPieces (cI := cI) (cJ := cJ) (cC := cC) (cZ := cZ) (cR := cR) a_m a_typed a_glob a_length a_allows a_permissions a_many a_sort a_piece a_onward a_open a_seen a_stack a_bytes a_star a_behind a_ends a_ruleOf a_classOf a_example a_set a_given a_kind a_finer a_leads a_stateOf a_setOf v_size v_rules v_items v_pieces v_first v_emptyOf v_classes v_sets v_states v_walker v_many) [(2, .int l2_4), (1, .int l1_4), (0, .ref a_m)] [] 27 := by
    intro l2_4 l1_4 h
    refine k_iload_n C d_M_allPieces_27 rfl 1 rfl rfl ?_
    exact k_iret C d_M_allPieces_28 (tr1 h (fun t => (fun (o : Option Value) (w : va_W) => o = some (.int (t)) ∧ w = w_M_allPieces (cI := cI) (cJ := cJ) (cC := cC) (cZ := cZ) (cR := cR) a_m a_typed a_glob a_length a_allows a_permissions a_many a_sort a_piece a_onward a_open a_seen a_stack a_bytes a_star a_behind a_ends a_ruleOf a_classOf a_example a_set a_given a_kind a_finer a_leads a_stateOf a_setOf v_size v_rules v_items v_pieces v_first v_emptyOf v_classes v_sets v_states v_walker v_many) (some (Value.int l1_4)) (w_M_allPieces (cI := cI) (cJ := cJ) (cC := cC) (cZ := cZ) (cR := cR) a_m a_typed a_glob a_length a_allows a_permissions a_many a_sort a_piece a_onward a_open a_seen a_stack a_bytes a_star a_behind a_ends a_ruleOf a_classOf a_example a_set a_given a_kind a_finer a_leads a_stateOf a_setOf v_size v_rules v_items v_pieces v_first v_emptyOf v_classes v_sets v_states v_walker v_many)) ⟨rfl, rfl⟩)
  have L4 : ∀ (kk4_0 : Int32 → Int32 → Option (Int32)) (hX4_0 : ∀ (l2_4 : Int32) (l1_4 : Int32), kk4_0 l2_4 l1_4 = some o_r → Wk X { frames := 0, cells := 0, slots := 0, locals := 0 } 3 D (va_A (w_M_allPieces (cI := cI) (cJ := cJ) (cC := cC) (cZ := cZ) (cR := cR) a_m a_typed a_glob a_length a_allows a_permissions a_many a_sort a_piece a_onward a_open a_seen a_stack a_bytes a_star a_behind a_ends a_ruleOf a_classOf a_example a_set a_given a_kind a_finer a_leads a_stateOf a_setOf v_size v_rules v_items v_pieces v_first v_emptyOf v_classes v_sets v_states v_walker v_many) (xs X).heap.size) 0 0 (GE X D (w_M_allPieces (cI := cI) (cJ := cJ) (cC := cC) (cZ := cZ) (cR := cR) a_m a_typed a_glob a_length a_allows a_permissions a_many a_sort a_piece a_onward a_open a_seen a_stack a_bytes a_star a_behind a_ends a_ruleOf a_classOf a_example a_set a_given a_kind a_finer a_leads a_stateOf a_setOf v_size v_rules v_items v_pieces v_first v_emptyOf v_classes v_sets v_states v_walker v_many) (fun (o : Option Value) (w : va_W) => o = some (.int o_r) ∧ w = w_M_allPieces (cI := cI) (cJ := cJ) (cC := cC) (cZ := cZ) (cR := cR) a_m a_typed a_glob a_length a_allows a_permissions a_many a_sort a_piece a_onward a_open a_seen a_stack a_bytes a_star a_behind a_ends a_ruleOf a_classOf a_example a_set a_given a_kind a_finer a_leads a_stateOf a_setOf v_size v_rules v_items v_pieces v_first v_emptyOf v_classes v_sets v_states v_walker v_many) 0 0) (w_M_allPieces (cI := cI) (cJ := cJ) (cC := cC) (cZ := cZ) (cR := cR) a_m a_typed a_glob a_length a_allows a_permissions a_many a_sort a_piece a_onward a_open a_seen a_stack a_bytes a_star a_behind a_ends a_ruleOf a_classOf a_example a_set a_given a_kind a_finer a_leads a_stateOf a_setOf v_size v_rules v_items v_pieces v_first v_emptyOf v_classes v_sets v_states v_walker v_many) [(2, .int l2_4), (1, .int l1_4), (0, .ref a_m)] [] 27) (n_4 : Nat) (l2_4 : Int32) (l1_4 : Int32), f_M_allPieces_L4 v_rules v_many kk4_0 n_4 l2_4 l1_4 = some o_r → Wk X { frames := 0, cells := 0, slots := 0, locals := 0 } 3 D (va_A (w_M_allPieces (cI := cI) (cJ := cJ) (cC := cC) (cZ := cZ) (cR := cR) a_m a_typed a_glob a_length a_allows a_permissions a_many a_sort a_piece a_onward a_open a_seen a_stack a_bytes a_star a_behind a_ends a_ruleOf a_classOf a_example a_set a_given a_kind a_finer a_leads a_stateOf a_setOf v_size v_rules v_items v_pieces v_first v_emptyOf v_classes v_sets v_states v_walker v_many) (xs X).heap.size) 0 0 (GE X D (w_M_allPieces (cI := cI) (cJ := cJ) (cC := cC) (cZ := cZ) (cR := cR) a_m a_typed a_glob a_length a_allows a_permissions a_many a_sort a_piece a_onward a_open a_seen a_stack a_bytes a_star a_behind a_ends a_ruleOf a_classOf a_example a_set a_given a_kind a_finer a_leads a_stateOf a_setOf v_size v_rules v_items v_pieces v_first v_emptyOf v_classes v_sets v_states v_walker v_many) (fun (o : Option Value) (w : va_W) => o = some (.int o_r) ∧ w = w_M_allPieces (cI := cI) (cJ := cJ) (cC := cC) (cZ := cZ) (cR := cR) a_m a_typed a_glob a_length a_allows a_permissions a_many a_sort a_piece a_onward a_open a_seen a_stack a_bytes a_star a_behind a_ends a_ruleOf a_classOf a_example a_set a_given a_kind a_finer a_leads a_stateOf a_setOf v_size v_rules v_items v_pieces v_first v_emptyOf v_classes v_sets v_states v_walker v_many) 0 0) (w_M_allPieces (cI := cI) (cJ := cJ) (cC := cC) (cZ := cZ) (cR := cR) a_m a_typed a_glob a_length a_allows a_permissions a_many a_sort a_piece a_onward a_open a_seen a_stack a_bytes a_star a_behind a_ends a_ruleOf a_classOf a_example a_set a_given a_kind a_finer a_leads a_stateOf a_setOf v_size v_rules v_items v_pieces v_first v_emptyOf v_classes v_sets v_states v_walker v_many) [(2, .int l2_4), (1, .int l1_4), (0, .ref a_m)] [] 4 := by
    intro kk4_0 hX4_0 n_4
    induction n_4 with
    | zero =>
      intro l2_4 l1_4 h
      exact nS h
    | succ n_4 ih4 =>
      intro l2_4 l1_4 h
      replace h := (f_M_allPieces_L4_s _ _ _ _ _ _).symm.trans h
      refine k_iload_n C d_M_allPieces_4 rfl 0 rfl rfl ?_
      refine k_aload_n C d_M_allPieces_5 rfl 2 rfl rfl ?_
      refine k_getf C d_M_allPieces_6 hin_M rfl 2 (by decide) mw32 0 rfl rfl rfl ?_
      refine k_icmp_ge (tgt := 27) C d_M_allPieces_9 (by decide) rfl (fun c1 => ?_) (fun c1 => ?_)
      · replace h := gi_t h c1
        exact hX4_0 l2_4 l1_4 h
      · replace h := gi_f h c1
        refine k_iload_n C d_M_allPieces_12 rfl 1 rfl rfl ?_
        refine k_aload_n C d_M_allPieces_13 rfl 2 rfl rfl ?_
        refine k_getf C d_M_allPieces_14 hin_M rfl 7 (by decide) mw33 0 rfl rfl rfl ?_
        refine k_iload_n C d_M_allPieces_17 rfl 0 rfl rfl ?_
        have g2 := gd1 h
        replace h := gd2 h
        refine k_iald C d_M_allPieces_18 1 0 rfl rfl (inB_in g2) rfl ?_
        refine k_iadd C d_M_allPieces_19 rfl ?_
        refine k_istore_n (lv' := [(1, .int (l1_4 + (v_many l2_4.toNatClampNeg))), (2, .int l2_4), (0, .ref a_m)]) C d_M_allPieces_20 rfl (by decide) rfl rfl ?_
        refine k_iinc (lv' := [(2, .int (l2_4 + 1)), (1, .int (l1_4 + (v_many l2_4.toNatClampNeg))), (0, .ref a_m)]) C d_M_allPieces_21 1 rfl rfl (by decide) rfl rfl ?_
        refine k_goto (tgt := 4) C d_M_allPieces_24 (by decide) ?_
        exact ih4 (l2_4 + 1) (l1_4 + (v_many l2_4.toNatClampNeg)) h
  exact L4 (fun l2_4 l1_4 => some l1_4) X4_0 fu (0 : Int32) (0 : Int32) h
