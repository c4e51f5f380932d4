theorem d_M_in_0 : decode b_M_in 0 = .ok (.iload_n 0, 1) := by decide +kernel
theorem d_M_in_1 : decode b_M_in 1 = .ok (.iload_n 1, 1) := by decide +kernel
theorem d_M_in_2 : decode b_M_in 2 = .ok (.if_icmp .lt 12, 3) := by decide +kernel
theorem d_M_in_5 : decode b_M_in 5 = .ok (.iload_n 0, 1) := by decide +kernel
theorem d_M_in_6 : decode b_M_in 6 = .ok (.iload_n 2, 1) := by decide +kernel
theorem d_M_in_7 : decode b_M_in 7 = .ok (.if_icmp .gt 7, 3) := by decide +kernel
theorem d_M_in_10 : decode b_M_in 10 = .ok (.iconst 1, 1) := by decide +kernel
theorem d_M_in_11 : decode b_M_in 11 = .ok (.goto 4, 3) := by decide +kernel
theorem d_M_in_14 : decode b_M_in 14 = .ok (.iconst 0, 1) := by decide +kernel
theorem d_M_in_15 : decode b_M_in 15 = .ok (.ireturn, 1) := by decide +kernel
abbrev w_M_in : va_W := []
def f_M_in (p0 : Int32) (p1 : Int32) (p2 : Int32) : Option (Int32) := (if p0 < p1 then (if ((0 : Int32) = 0 ∨ (0 : Int32) = 1) then some (0 : Int32) else none) else (if p2 < p0 then (if ((0 : Int32) = 0 ∨ (0 : Int32) = 1) then some (0 : Int32) else none) else (if ((1 : Int32) = 0 ∨ (1 : Int32) = 1) then some (1 : Int32) else none)))
set_option maxRecDepth 100000 in
set_option maxHeartbeats 4000000 in
theorem c_M_in {l : Launch} {D : va_G} {cI cJ cC cZ cR : ClassId} (fu : Nat)     (p0 : Int32) (p1 : Int32) (p2 : Int32) (o_r : Int32) (h : f_M_in p0 p1 p2 = some o_r) : GM l D (tysL cI cJ cC cZ cR) y_M_in b_M_in 3 (some (.boolean)) { frames := 0, cells := 0, slots := 0, locals := 0 } [.int p0, .int p1, .int p2] (w_M_in) (fun (o : Option Value) (w : va_W) => o = some (.int o_r) ∧ w = w_M_in) := by
  refine GM.of (by decide) (Nat.le_of_ble_eq_true rfl) (lv := [(0, .int p0), (1, .int p1), (2, .int p2)]) rfl ?_
  intro X hX C
  subst hX
  refine k_iload_n C d_M_in_0 rfl 0 rfl rfl ?_
  refine k_iload_n C d_M_in_1 rfl 1 rfl rfl ?_
  refine k_icmp_lt (tgt := 14) C d_M_in_2 (by decide) rfl (fun c1 => ?_) (fun c1 => ?_)
  · replace h := gi_t h c1
    refine k_iconst C d_M_in_14 (v := (0 : Int32)) (by decide) rfl ?_
    have g2 := gd1 h
    replace h := gd2 h
    exact k_zret C d_M_in_15 (nz_bool g2) (tr1 h (fun t => (fun (o : Option Value) (w : va_W) => o = some (.int (t)) ∧ w = w_M_in) (some (Value.int (0 : Int32))) (w_M_in)) ⟨rfl, rfl⟩)
  · replace h := gi_f h c1
    refine k_iload_n C d_M_in_5 rfl 0 rfl rfl ?_
    refine k_iload_n C d_M_in_6 rfl 2 rfl rfl ?_
    refine k_icmp_gt (tgt := 14) C d_M_in_7 (by decide) rfl (fun c3 => ?_) (fun c3 => ?_)
    · replace h := gi_t h c3
      refine k_iconst C d_M_in_14 (v := (0 : Int32)) (by decide) rfl ?_
      have g4 := gd1 h
      replace h := gd2 h
      exact k_zret C d_M_in_15 (nz_bool g4) (tr1 h (fun t => (fun (o : Option Value) (w : va_W) => o = some (.int (t)) ∧ w = w_M_in) (some (Value.int (0 : Int32))) (w_M_in)) ⟨rfl, rfl⟩)
    · replace h := gi_f h c3
      refine k_iconst C d_M_in_10 (v := (1 : Int32)) (by decide) rfl ?_
      refine k_goto (tgt := 15) C d_M_in_11 (by decide) ?_
      have g5 := gd1 h
      replace h := gd2 h
      exact k_zret C d_M_in_15 (nz_bool g5) (tr1 h (fun t => (fun (o : Option Value) (w : va_W) => o = some (.int (t)) ∧ w = w_M_in) (some (Value.int (1 : Int32))) (w_M_in)) ⟨rfl, rfl⟩)
theorem d_M_type_0 : decode b_M_type 0 = .ok (.iload_n 2, 1) := by decide +kernel
theorem d_M_type_1 : decode b_M_type 1 = .ok (.iconst 1, 1) := by decide +kernel
theorem d_M_type_2 : decode b_M_type 2 = .ok (.iconst 4, 1) := by decide +kernel
theorem d_M_type_3 : decode b_M_type 3 = .ok (.invokestatic 90, 3) := by decide +kernel
theorem d_M_type_6 : decode b_M_type 6 = .ok (.ifCond .eq 18, 3) := by decide +kernel
theorem d_M_type_9 : decode b_M_type 9 = .ok (.aload_n 0, 1) := by decide +kernel
theorem d_M_type_10 : decode b_M_type 10 = .ok (.getfield 94, 3) := by decide +kernel
theorem d_M_type_13 : decode b_M_type 13 = .ok (.iload_n 2, 1) := by decide +kernel
theorem d_M_type_14 : decode b_M_type 14 = .ok (.iadd, 1) := by decide +kernel
theorem d_M_type_15 : decode b_M_type 15 = .ok (.bipush 40, 2) := by decide +kernel
theorem d_M_type_17 : decode b_M_type 17 = .ok (.if_icmp .gt 7, 3) := by decide +kernel
theorem d_M_type_20 : decode b_M_type 20 = .ok (.iconst 1, 1) := by decide +kernel
theorem d_M_type_21 : decode b_M_type 21 = .ok (.goto 4, 3) := by decide +kernel
theorem d_M_type_24 : decode b_M_type 24 = .ok (.iconst 0, 1) := by decide +kernel
theorem d_M_type_25 : decode b_M_type 25 = .ok (.istore_n 3, 1) := by decide +kernel
theorem d_M_type_26 : decode b_M_type 26 = .ok (.iconst 0, 1) := by decide +kernel
theorem d_M_type_27 : decode b_M_type 27 = .ok (.istore 4, 2) := by decide +kernel
theorem d_M_type_29 : decode b_M_type 29 = .ok (.iload 4, 2) := by decide +kernel
theorem d_M_type_31 : decode b_M_type 31 = .ok (.iload_n 2, 1) := by decide +kernel
theorem d_M_type_32 : decode b_M_type 32 = .ok (.if_icmp .ge 32, 3) := by decide +kernel
theorem d_M_type_35 : decode b_M_type 35 = .ok (.iload_n 3, 1) := by decide +kernel
theorem d_M_type_36 : decode b_M_type 36 = .ok (.ifCond .eq 28, 3) := by decide +kernel
theorem d_M_type_39 : decode b_M_type 39 = .ok (.iload_n 1, 1) := by decide +kernel
theorem d_M_type_40 : decode b_M_type 40 = .ok (.bipush 8, 2) := by decide +kernel
theorem d_M_type_42 : decode b_M_type 42 = .ok (.iload 4, 2) := by decide +kernel
theorem d_M_type_44 : decode b_M_type 44 = .ok (.imul, 1) := by decide +kernel
theorem d_M_type_45 : decode b_M_type 45 = .ok (.ishr, 1) := by decide +kernel
theorem d_M_type_46 : decode b_M_type 46 = .ok (.sipush 255, 3) := by decide +kernel
theorem d_M_type_49 : decode b_M_type 49 = .ok (.iand, 1) := by decide +kernel
theorem d_M_type_50 : decode b_M_type 50 = .ok (.bipush 33, 2) := by decide +kernel
theorem d_M_type_52 : decode b_M_type 52 = .ok (.bipush 126, 2) := by decide +kernel
theorem d_M_type_54 : decode b_M_type 54 = .ok (.invokestatic 90, 3) := by decide +kernel
theorem d_M_type_57 : decode b_M_type 57 = .ok (.istore_n 3, 1) := by decide +kernel
theorem d_M_type_58 : decode b_M_type 58 = .ok (.iinc 4 1, 3) := by decide +kernel
theorem d_M_type_61 : decode b_M_type 61 = .ok (.goto (-32), 3) := by decide +kernel
theorem d_M_type_64 : decode b_M_type 64 = .ok (.iload_n 2, 1) := by decide +kernel
theorem d_M_type_65 : decode b_M_type 65 = .ok (.iconst 1, 1) := by decide +kernel
theorem d_M_type_66 : decode b_M_type 66 = .ok (.isub, 1) := by decide +kernel
theorem d_M_type_67 : decode b_M_type 67 = .ok (.istore 4, 2) := by decide +kernel
theorem d_M_type_69 : decode b_M_type 69 = .ok (.iload 4, 2) := by decide +kernel
theorem d_M_type_71 : decode b_M_type 71 = .ok (.ifCond .lt 43, 3) := by decide +kernel
theorem d_M_type_74 : decode b_M_type 74 = .ok (.iload_n 3, 1) := by decide +kernel
theorem d_M_type_75 : decode b_M_type 75 = .ok (.ifCond .eq 39, 3) := by decide +kernel
theorem d_M_type_78 : decode b_M_type 78 = .ok (.aload_n 0, 1) := by decide +kernel
theorem d_M_type_79 : decode b_M_type 79 = .ok (.getfield 7, 3) := by decide +kernel
theorem d_M_type_82 : decode b_M_type 82 = .ok (.aload_n 0, 1) := by decide +kernel
theorem d_M_type_83 : decode b_M_type 83 = .ok (.getfield 94, 3) := by decide +kernel
theorem d_M_type_86 : decode b_M_type 86 = .ok (.iload_n 1, 1) := by decide +kernel
theorem d_M_type_87 : decode b_M_type 87 = .ok (.bipush 8, 2) := by decide +kernel
theorem d_M_type_89 : decode b_M_type 89 = .ok (.iload 4, 2) := by decide +kernel
theorem d_M_type_91 : decode b_M_type 91 = .ok (.imul, 1) := by decide +kernel
theorem d_M_type_92 : decode b_M_type 92 = .ok (.ishr, 1) := by decide +kernel
theorem d_M_type_93 : decode b_M_type 93 = .ok (.sipush 255, 3) := by decide +kernel
theorem d_M_type_96 : decode b_M_type 96 = .ok (.iand, 1) := by decide +kernel
theorem d_M_type_97 : decode b_M_type 97 = .ok (.iastore, 1) := by decide +kernel
theorem d_M_type_98 : decode b_M_type 98 = .ok (.aload_n 0, 1) := by decide +kernel
theorem d_M_type_99 : decode b_M_type 99 = .ok (.aload_n 0, 1) := by decide +kernel
theorem d_M_type_100 : decode b_M_type 100 = .ok (.getfield 94, 3) := by decide +kernel
theorem d_M_type_103 : decode b_M_type 103 = .ok (.iconst 1, 1) := by decide +kernel
theorem d_M_type_104 : decode b_M_type 104 = .ok (.iadd, 1) := by decide +kernel
theorem d_M_type_105 : decode b_M_type 105 = .ok (.putfield 94, 3) := by decide +kernel
theorem d_M_type_108 : decode b_M_type 108 = .ok (.iinc 4 (-1), 3) := by decide +kernel
theorem d_M_type_111 : decode b_M_type 111 = .ok (.goto (-42), 3) := by decide +kernel
theorem d_M_type_114 : decode b_M_type 114 = .ok (.iload_n 3, 1) := by decide +kernel
theorem d_M_type_115 : decode b_M_type 115 = .ok (.ireturn, 1) := by decide +kernel
abbrev w_M_type {cI cJ cC cZ cR : ClassId} (a_m a_typed a_glob a_length a_allows a_permissions a_many a_sort a_piece a_onward a_open a_seen a_stack a_bytes a_star a_behind a_ends a_ruleOf a_classOf a_example a_set a_given a_kind a_finer a_leads a_stateOf a_setOf : Nat) (v_size : Int32) (v_rules : Int32) (v_items : Int32) (v_pieces : Int32) (v_first : Int64) (v_emptyOf : Int32) (v_classes : Int32) (v_sets : Int32) (v_states : Int32) (v_walker : Int32) (v_typed : Nat → Int32) : va_W := [(a_m, .inr (8, [.ref a_typed, .int v_size, .int v_rules, .ref a_glob, .ref a_length, .ref a_allows, .ref a_permissions, .ref a_many, .int v_items, .ref a_sort, .ref a_piece, .ref a_onward, .ref a_open, .ref a_seen, .ref a_stack, .int v_pieces, .ref a_bytes, .ref a_star, .ref a_behind, .ref a_ends, .ref a_ruleOf, .long v_first, .int v_emptyOf, .int v_classes, .ref a_classOf, .ref a_example, .int v_sets, .ref a_set, .ref a_given, .ref a_kind, .ref a_finer, .ref a_leads, .int v_states, .ref a_stateOf, .ref a_setOf, .int v_walker])), (a_typed, .inl (cI, 40, .inl v_typed))]
def f_M_type_L69 (p1 : Int32) (l3_j64 : Int32) (kk69_0 : Int32 → Int32 → (Nat → Int32) → Option (Int32 × Int32 × (Nat → Int32))) : Nat → Int32 → Int32 → (Nat → Int32) → Option (Int32 × Int32 × (Nat → Int32))
  | 0, _, _, _ => none
  | n_69 + 1, l4_69, v_size_69, v_typed_69 => (if l4_69 < 0 then (kk69_0 l4_69 v_size_69 v_typed_69) else (if l3_j64 = 0 then (kk69_0 l4_69 v_size_69 v_typed_69) else (if inB v_size_69 40 = true then ((fun l4_69 v_size_69 v_typed_69 => f_M_type_L69 p1 l3_j64 kk69_0 n_69 l4_69 v_size_69 v_typed_69) (l4_69 + (-1)) (v_size_69 + (1 : Int32)) (upd v_typed_69 v_size_69.toNatClampNeg ((p1 >>> (((8 : Int32) * l4_69) &&& 31)) &&& (255 : Int32)))) else none)))
theorem f_M_type_L69_s (p1 : Int32) (l3_j64 : Int32) (kk69_0 : Int32 → Int32 → (Nat → Int32) → Option (Int32 × Int32 × (Nat → Int32))) (n_69 : Nat) (l4_69 : Int32) (v_size_69 : Int32) (v_typed_69 : Nat → Int32) : f_M_type_L69 p1 l3_j64 kk69_0 (n_69 + 1) l4_69 v_size_69 v_typed_69 = (if l4_69 < 0 then (kk69_0 l4_69 v_size_69 v_typed_69) else (if l3_j64 = 0 then (kk69_0 l4_69 v_size_69 v_typed_69) else (if inB v_size_69 40 = true then ((fun l4_69 v_size_69 v_typed_69 => f_M_type_L69 p1 l3_j64 kk69_0 n_69 l4_69 v_size_69 v_typed_69) (l4_69 + (-1)) (v_size_69 + (1 : Int32)) (upd v_typed_69 v_size_69.toNatClampNeg ((p1 >>> (((8 : Int32) * l4_69) &&& 31)) &&& (255 : Int32)))) else none))) := rfl
def f_M_type_J64 (p1 : Int32) (p2 : Int32) (fu : Nat) (l3_j64 : Int32) (v_size_j64 : Int32) (v_typed_j64 : Nat → Int32) : Option (Int32 × Int32 × (Nat → Int32)) := (f_M_type_L69 p1 l3_j64 (fun l4_69 v_size_69 v_typed_69 => (if (l3_j64 = 0 ∨ l3_j64 = 1) then some (l3_j64, v_size_69, v_typed_69) else none)) fu (p2 - (1 : Int32)) v_size_j64 v_typed_j64)
def f_M_type_L29 (p1 : Int32) (p2 : Int32) (kk29_0 : Int32 → Int32 → Option (Int32 × Int32 × (Nat → Int32))) : Nat → Int32 → Int32 → Option (Int32 × Int32 × (Nat → Int32))
  | 0, _, _ => none
  | n_29 + 1, l4_29, l3_29 => (if p2 ≤ l4_29 then (kk29_0 l4_29 l3_29) else (if l3_29 = 0 then (kk29_0 l4_29 l3_29) else (Option.bind (f_M_in ((p1 >>> (((8 : Int32) * l4_29) &&& 31)) &&& (255 : Int32)) (33 : Int32) (126 : Int32)) fun r7 => ((fun l4_29 l3_29 => f_M_type_L29 p1 p2 kk29_0 n_29 l4_29 l3_29) (l4_29 + 1) r7))))
theorem f_M_type_L29_s (p1 : Int32) (p2 : Int32) (kk29_0 : Int32 → Int32 → Option (Int32 × Int32 × (Nat → Int32))) (n_29 : Nat) (l4_29 : Int32) (l3_29 : Int32) : f_M_type_L29 p1 p2 kk29_0 (n_29 + 1) l4_29 l3_29 = (if p2 ≤ l4_29 then (kk29_0 l4_29 l3_29) else (if l3_29 = 0 then (kk29_0 l4_29 l3_29) else (Option.bind (f_M_in ((p1 >>> (((8 : Int32) * l4_29) &&& 31)) &&& (255 : Int32)) (33 : Int32) (126 : Int32)) fun r7 => ((fun l4_29 l3_29 => f_M_type_L29 p1 p2 kk29_0 n_29 l4_29 l3_29) (l4_29 + 1) r7)))) := rfl
def f_M_type_J25 (p1 : Int32) (p2 : Int32) (fu : Nat) (s0_j25 : Int32) (v_size_j25 : Int32) (v_typed_j25 : Nat → Int32) : Option (Int32 × Int32 × (Nat → Int32)) := (f_M_type_L29 p1 p2 (fun l4_29 l3_29 => (f_M_type_J64 p1 p2 fu l3_29 v_size_j25 v_typed_j25)) fu (0 : Int32) s0_j25)
def f_M_type_J24 (p1 : Int32) (p2 : Int32) (fu : Nat) (v_size_j24 : Int32) (v_typed_j24 : Nat → Int32) : Option (Int32 × Int32 × (Nat → Int32)) := (f_M_type_J25 p1 p2 fu (0 : Int32) v_size_j24 v_typed_j24)
def f_M_type (fu : Nat) (p1 : Int32) (p2 : Int32) (v_size : Int32) (v_typed : Nat → Int32) : Option (Int32 × Int32 × (Nat → Int32)) := (Option.bind (f_M_in p2 (1 : Int32) (4 : Int32)) fun r9 => (if r9 = 0 then (f_M_type_J24 p1 p2 fu v_size v_typed) else (if (40 : Int32) < (v_size + p2) then (f_M_type_J24 p1 p2 fu v_size v_typed) else (f_M_type_J25 p1 p2 fu (1 : Int32) v_size v_typed))))
set_option maxRecDepth 100000 in
set_option maxHeartbeats 4000000 in
theorem c_M_type {l : Launch} {D : va_G} {cI cJ cC cZ cR : ClassId} (fu : Nat) (a_m a_typed a_glob a_length a_allows a_permissions a_many a_sort a_piece a_onward a_open a_seen a_stack a_bytes a_star a_behind a_ends a_ruleOf a_classOf a_example a_set a_given a_kind a_finer a_leads a_stateOf a_setOf : Nat)   (v_size : Int32) (v_rules : Int32) (v_items : Int32) (v_pieces : Int32) (v_first : Int64) (v_emptyOf : Int32) (v_classes : Int32) (v_sets : Int32) (v_states : Int32) (v_walker : Int32) (v_typed : Nat → Int32) (p1 : Int32) (p2 : Int32) (o_r : Int32) (o_v_size : Int32) (o_v_typed : Nat → Int32) (h : f_M_type fu p1 p2 v_size v_typed = some (o_r, o_v_size, o_v_typed)) : GM l D (tysL cI cJ cC cZ cR) y_M_type b_M_type 5 (some (.boolean)) { frames := 1, cells := 0, slots := 0, locals := 22 } [.ref a_m, .int p1, .int p2] (w_M_type (cI := cI) (cJ := cJ) (cC := cC) (cZ := cZ) (cR := cR) a_m a_typed a_glob a_length a_allows a_permissions a_many a_sort a_piece a_onward a_open a_seen a_stack a_bytes a_star a_behind a_ends a_ruleOf a_classOf a_example a_set a_given a_kind a_finer a_leads a_stateOf a_setOf v_size v_rules v_items v_pieces v_first v_emptyOf v_classes v_sets v_states v_walker v_typed) (fun (o : Option Value) (w : va_W) => o = some (.int o_r) ∧ w = w_M_type (cI := cI) (cJ := cJ) (cC := cC) (cZ := cZ) (cR := cR) a_m a_typed a_glob a_length a_allows a_permissions a_many a_sort a_piece a_onward a_open a_seen a_stack a_bytes a_star a_behind a_ends a_ruleOf a_classOf a_example a_set a_given a_kind a_finer a_leads a_stateOf a_setOf o_v_size v_rules v_items v_pieces v_first v_emptyOf v_classes v_sets v_states v_walker o_v_typed) := by
  refine GM.of (by decide) (Nat.le_of_ble_eq_true rfl) (lv := [(0, .ref a_m), (1, .int p1), (2, .int p2)]) rfl ?_
  intro X hX C
  subst hX
  have J64 : ∀ (l4_j64 : Int32) (l3_j64 : Int32) (v_size_j64 : Int32) (v_typed_j64 : Nat → Int32), f_M_type_J64 p1 p2 fu l3_j64 v_size_j64 v_typed_j64 = some (o_r, o_v_size, o_v_typed) → Wk X { frames := 1, cells := 0, slots := 0, locals := 22 } 5 D (va_A (w_M_type (cI := cI) (cJ := cJ) (cC := cC) (cZ := cZ) (cR := cR) a_m a_typed a_glob a_length a_allows a_permissions a_many a_sort a_piece a_onward a_open a_seen a_stack a_bytes a_star a_behind a_ends a_ruleOf a_classOf a_example a_set a_given a_kind a_finer a_leads a_stateOf a_setOf v_size v_rules v_items v_pieces v_first v_emptyOf v_classes v_sets v_states v_walker v_typed) (xs X).heap.size) 0 0 (GE X D (w_M_type (cI := cI) (cJ := cJ) (cC := cC) (cZ := cZ) (cR := cR) a_m a_typed a_glob a_length a_allows a_permissions a_many a_sort a_piece a_onward a_open a_seen a_stack a_bytes a_star a_behind a_ends a_ruleOf a_classOf a_example a_set a_given a_kind a_finer a_leads a_stateOf a_setOf v_size v_rules v_items v_pieces v_first v_emptyOf v_classes v_sets v_states v_walker v_typed) (fun (o : Option Value) (w : va_W) => o = some (.int o_r) ∧ w = w_M_type (cI := cI) (cJ := cJ) (cC := cC) (cZ := cZ) (cR := cR) a_m a_typed a_glob a_length a_allows a_permissions a_many a_sort a_piece a_onward a_open a_seen a_stack a_bytes a_star a_behind a_ends a_ruleOf a_classOf a_example a_set a_given a_kind a_finer a_leads a_stateOf a_setOf o_v_size v_rules v_items v_pieces v_first v_emptyOf v_classes v_sets v_states v_walker o_v_typed) 0 0) (w_M_type (cI := cI) (cJ := cJ) (cC := cC) (cZ := cZ) (cR := cR) a_m a_typed a_glob a_length a_allows a_permissions a_many a_sort a_piece a_onward a_open a_seen a_stack a_bytes a_star a_behind a_ends a_ruleOf a_classOf a_example a_set a_given a_kind a_finer a_leads a_stateOf a_setOf v_size_j64 v_rules v_items v_pieces v_first v_emptyOf v_classes v_sets v_states v_walker v_typed_j64) [(4, .int l4_j64), (3, .int l3_j64), (0, .ref a_m), (1, .int p1), (2, .int p2)] [] 64 := by
    intro l4_j64 l3_j64 v_size_j64 v_typed_j64 h
    refine k_iload_n C d_M_type_64 rfl 4 rfl rfl ?_
    refine k_iconst C d_M_type_65 (v := (1 : Int32)) (by decide) rfl ?_
    refine k_isub C d_M_type_66 rfl ?_
    refine k_istore (lv' := [(4, .int (p2 - (1 : Int32))), (3, .int l3_j64), (0, .ref a_m), (1, .int p1), (2, .int p2)]) C d_M_type_67 (by decide) rfl rfl ?_
    have X69_0 : ∀ (l4_69 : Int32) (v_size_69 : Int32) (v_typed_69 : Nat → Int32), (if (l3_j64 = 0 ∨ l3_j64 = 1) then some (l3_j64, v_size_69, v_typed_69) else none) = some (o_r, o_v_size, o_v_typed) → Wk X { frames := 1, cells := 0, slots := 0, locals := 22 } 5 D (va_A (w_M_type (cI := cI) (cJ := cJ) (cC := cC) (cZ := cZ) (cR := cR) a_m a_typed a_glob a_length a_allows a_permissions a_many a_sort a_piece a_onward a_open a_seen a_stack a_bytes a_star a_behind a_ends a_ruleOf a_classOf a_example a_set a_given a_kind a_finer a_leads a_stateOf a_setOf v_size v_rules v_items v_pieces v_first v_emptyOf v_classes v_sets v_states v_walker v_typed) (xs X).heap.size) 0 0 (GE X D (w_M_type (cI := cI) (cJ := cJ) (cC := cC) (cZ := cZ) (cR := cR) a_m a_typed a_glob a_length a_allows a_permissions a_many a_sort a_piece a_onward a_open a_seen a_stack a_bytes a_star a_behind a_ends a_ruleOf a_classOf a_example a_set a_given a_kind a_finer a_leads a_stateOf a_setOf v_size v_rules v_items v_pieces v_first v_emptyOf v_classes v_sets v_states v_walker v_typed) (fun (o : Option Value) (w : va_W) => o = some (.int o_r) ∧ w = w_M_type (cI := cI) (cJ := cJ) (cC := cC) (cZ := cZ) (cR := cR) a_m a_typed a_glob a_length a_allows a_permissions a_many a_sort a_piece a_onward a_open a_seen a_stack a_bytes a_star a_behind a_ends a_ruleOf a_classOf a_example a_set a_given a_kind a_finer a_leads a_stateOf a_setOf o_v_size v_rules v_items v_pieces v_first v_emptyOf v_classes v_sets v_states v_walker o_v_typed) 0 0) (w_M_type (cI := cI) (cJ := cJ) (cC := cC) (cZ := cZ) (cR := cR) a_m a_typed a_glob a_length a_allows a_permissions a_many a_sort a_piece a_onward a_open a_seen a_stack a_bytes a_star a_behind a_ends a_ruleOf a_classOf a_example a_set a_given a_kind a_finer a_leads a_stateOf a_setOf v_size_69 v_rules v_items v_pieces v_first v_emptyOf v_classes v_sets v_states v_walker v_typed_69) [(4, .int l4_69), (3, .int l3_j64), (0, .ref a_m), (1, .int p1), (2, .int p2)] [] 114 := by
      intro l4_69 v_size_69 v_typed_69 h
      refine k_iload_n C d_M_type_114 rfl 1 rfl rfl ?_
      have g4 := gd1 h
      replace h := gd2 h
      exact k_zret C d_M_type_115 (nz_bool g4) (tr1 h (fun t => (fun (o : Option Value) (w : va_W) => o = some (.int (t.1)) ∧ w = w_M_type (cI := cI) (cJ := cJ) (cC := cC) (cZ := cZ) (cR := cR) a_m a_typed a_glob a_length a_allows a_permissions a_many a_sort a_piece a_onward a_open a_seen a_stack a_bytes a_star a_behind a_ends a_ruleOf a_classOf a_example a_set a_given a_kind a_finer a_leads a_stateOf a_setOf (t.2.1) v_rules v_items v_pieces v_first v_emptyOf v_classes v_sets v_states v_walker (t.2.2)) (some (Value.int l3_j64)) (w_M_type (cI := cI) (cJ := cJ) (cC := cC) (cZ := cZ) (cR := cR) a_m a_typed a_glob a_length a_allows a_permissions a_many a_sort a_piece a_onward a_open a_seen a_stack a_bytes a_star a_behind a_ends a_ruleOf a_classOf a_example a_set a_given a_kind a_finer a_leads a_stateOf a_setOf v_size_69 v_rules v_items v_pieces v_first v_emptyOf v_classes v_sets v_states v_walker v_typed_69)) ⟨rfl, rfl⟩)
    have L69 : ∀ (kk69_0 : Int32 → Int32 → (Nat → Int32) → Option (Int32 × Int32 × (Nat → Int32))) (hX69_0 : ∀ (l4_69 : Int32) (v_size_69 : Int32) (v_typed_69 : Nat → Int32), kk69_0 l4_69 v_size_69 v_typed_69 = some (o_r, o_v_size, o_v_typed) → Wk X { frames := 1, cells := 0, slots := 0, locals := 22 } 5 D (va_A (w_M_type (cI := cI) (cJ := cJ) (cC := cC) (cZ := cZ) (cR := cR) a_m a_typed a_glob a_length a_allows a_permissions a_many a_sort a_piece a_onward a_open a_seen a_stack a_bytes a_star a_behind a_ends a_ruleOf a_classOf a_example a_set a_given a_kind a_finer a_leads a_stateOf a_setOf v_size v_rules v_items v_pieces v_first v_emptyOf v_classes v_sets v_states v_walker v_typed) (xs X).heap.size) 0 0 (GE X D (w_M_type (cI := cI) (cJ := cJ) (cC := cC) (cZ := cZ) (cR := cR) a_m a_typed a_glob a_length a_allows a_permissions a_many a_sort a_piece a_onward a_open a_seen a_stack a_bytes a_star a_behind a_ends a_ruleOf a_classOf a_example a_set a_given a_kind a_finer a_leads a_stateOf a_setOf v_size v_rules v_items v_pieces v_first v_emptyOf v_classes v_sets v_states v_walker v_typed) (fun (o : Option Value) (w : va_W) => o = some (.int o_r) ∧ w = w_M_type (cI := cI) (cJ := cJ) (cC := cC) (cZ := cZ) (cR := cR) a_m a_typed a_glob a_length a_allows a_permissions a_many a_sort a_piece a_onward a_open a_seen a_stack a_bytes a_star a_behind a_ends a_ruleOf a_classOf a_example a_set a_given a_kind a_finer a_leads a_stateOf a_setOf o_v_size v_rules v_items v_pieces v_first v_emptyOf v_classes v_sets v_states v_walker o_v_typed) 0 0) (w_M_type (cI := cI) (cJ := cJ) (cC := cC) (cZ := cZ) (cR := cR) a_m a_typed a_glob a_length a_allows a_permissions a_many a_sort a_piece a_onward a_open a_seen a_stack a_bytes a_star a_behind a_ends a_ruleOf a_classOf a_example a_set a_given a_kind a_finer a_leads a_stateOf a_setOf v_size_69 v_rules v_items v_pieces v_first v_emptyOf v_classes v_sets v_states v_walker v_typed_69) [(4, .int l4_69), (3, .int l3_j64), (0, .ref a_m), (1, .int p1), (2, .int p2)] [] 114) (n_69 : Nat) (l4_69 : Int32) (v_size_69 : Int32) (v_typed_69 : Nat → Int32), f_M_type_L69 p1 l3_j64 kk69_0 n_69 l4_69 v_size_69 v_typed_69 = some (o_r, o_v_size, o_v_typed) → Wk X { frames := 1, cells := 0, slots := 0, locals := 22 } 5 D (va_A (w_M_type (cI := cI) (cJ := cJ) (cC := cC) (cZ := cZ) (cR := cR) a_m a_typed a_glob a_length a_allows a_permissions a_many a_sort a_piece a_onward a_open a_seen a_stack a_bytes a_star a_behind a_ends a_ruleOf a_classOf a_example a_set a_given a_kind a_finer a_leads a_stateOf a_setOf v_size v_rules v_items v_pieces v_first v_emptyOf v_classes v_sets v_states v_walker v_typed) (xs X).heap.size) 0 0 (GE X D (w_M_type (cI := cI) (cJ := cJ) (cC := cC) (cZ := cZ) (cR := cR) a_m a_typed a_glob a_length a_allows a_permissions a_many a_sort a_piece a_onward a_open a_seen a_stack a_bytes a_star a_behind a_ends a_ruleOf a_classOf a_example a_set a_given a_kind a_finer a_leads a_stateOf a_setOf v_size v_rules v_items v_pieces v_first v_emptyOf v_classes v_sets v_states v_walker v_typed) (fun (o : Option Value) (w : va_W) => o = some (.int o_r) ∧ w = w_M_type (cI := cI) (cJ := cJ) (cC := cC) (cZ := cZ) (cR := cR) a_m a_typed a_glob a_length a_allows a_permissions a_many a_sort a_piece a_onward a_open a_seen a_stack a_bytes a_star a_behind a_ends a_ruleOf a_classOf a_example a_set a_given a_kind a_finer a_leads a_stateOf a_setOf o_v_size v_rules v_items v_pieces v_first v_emptyOf v_classes v_sets v_states v_walker o_v_typed) 0 0) (w_M_type (cI := cI) (cJ := cJ) (cC := cC) (cZ := cZ) (cR := cR) a_m a_typed a_glob a_length a_allows a_permissions a_many a_sort a_piece a_onward a_open a_seen a_stack a_bytes a_star a_behind a_ends a_ruleOf a_classOf a_example a_set a_given a_kind a_finer a_leads a_stateOf a_setOf v_size_69 v_rules v_items v_pieces v_first v_emptyOf v_classes v_sets v_states v_walker v_typed_69) [(4, .int l4_69), (3, .int l3_j64), (0, .ref a_m), (1, .int p1), (2, .int p2)] [] 69 := by
      intro kk69_0 hX69_0 n_69
      induction n_69 with
      | zero =>
        intro l4_69 v_size_69 v_typed_69 h
        exact nS h
      | succ n_69 ih69 =>
        intro l4_69 v_size_69 v_typed_69 h
        replace h := (f_M_type_L69_s _ _ _ _ _ _ _).symm.trans h
        refine k_iload C d_M_type_69 0 rfl rfl ?_
        refine k_if_lt (tgt := 114) C d_M_type_71 (by decide) rfl (fun c1 => ?_) (fun c1 => ?_)
        · replace h := gi_t h c1
          exact hX69_0 l4_69 v_size_69 v_typed_69 h
        · replace h := gi_f h c1
          refine k_iload_n C d_M_type_74 rfl 1 rfl rfl ?_
          refine k_if_eq (tgt := 114) C d_M_type_75 (by decide) rfl (fun c2 => ?_) (fun c2 => ?_)
          · replace h := gi_t h c2
            exact hX69_0 l4_69 v_size_69 v_typed_69 h
          · replace h := gi_f h c2
            refine k_aload_n C d_M_type_78 rfl 2 rfl rfl ?_
            refine k_getf C d_M_type_79 hin_M rfl 0 (by decide) mw0 0 rfl rfl rfl ?_
            refine k_aload_n C d_M_type_82 rfl 2 rfl rfl ?_
            refine k_getf C d_M_type_83 hin_M rfl 1 (by decide) mw1 0 rfl rfl rfl ?_
            refine k_iload_n C d_M_type_86 rfl 3 rfl rfl ?_
            refine k_bipush C d_M_type_87 (v := (8 : Int32)) (by decide) rfl ?_
            refine k_iload C d_M_type_89 0 rfl rfl ?_
            refine k_imul C d_M_type_91 rfl ?_
            refine k_ishr C d_M_type_92 rfl ?_
            refine k_sipush C d_M_type_93 (v := (255 : Int32)) (by decide) rfl ?_
            refine k_iand C d_M_type_96 rfl ?_
            have g3 := gd1 h
            replace h := gd2 h
            refine k_iast (ws' := w_M_type (cI := cI) (cJ := cJ) (cC := cC) (cZ := cZ) (cR := cR) a_m a_typed a_glob a_length a_allows a_permissions a_many a_sort a_piece a_onward a_open a_seen a_stack a_bytes a_star a_behind a_ends a_ruleOf a_classOf a_example a_set a_given a_kind a_finer a_leads a_stateOf a_setOf v_size_69 v_rules v_items v_pieces v_first v_emptyOf v_classes v_sets v_states v_walker (upd v_typed_69 v_size_69.toNatClampNeg ((p1 >>> (((8 : Int32) * l4_69) &&& 31)) &&& (255 : Int32)))) C d_M_type_97 1 0 rfl rfl (inB_in g3) rfl rfl ?_
            refine k_aload_n C d_M_type_98 rfl 2 rfl rfl ?_
            refine k_aload_n C d_M_type_99 rfl 2 rfl rfl ?_
            refine k_getf C d_M_type_100 hin_M rfl 1 (by decide) mw1 0 rfl rfl rfl ?_
            refine k_iconst C d_M_type_103 (v := (1 : Int32)) (by decide) rfl ?_
            refine k_iadd C d_M_type_104 rfl ?_
            refine k_putf (ws' := w_M_type (cI := cI) (cJ := cJ) (cC := cC) (cZ := cZ) (cR := cR) a_m a_typed a_glob a_length a_allows a_permissions a_many a_sort a_piece a_onward a_open a_seen a_stack a_bytes a_star a_behind a_ends a_ruleOf a_classOf a_example a_set a_given a_kind a_finer a_leads a_stateOf a_setOf (v_size_69 + (1 : Int32)) v_rules v_items v_pieces v_first v_emptyOf v_classes v_sets v_states v_walker (upd v_typed_69 v_size_69.toNatClampNeg ((p1 >>> (((8 : Int32) * l4_69) &&& 31)) &&& (255 : Int32)))) C d_M_type_105 hin_M hty_M hnn_M rfl 1 (by decide) mw1 rfl 0 rfl rfl rfl (Nat.le_of_ble_eq_true rfl) rfl rfl ?_
            refine k_iinc (lv' := [(4, .int (l4_69 + (-1))), (3, .int l3_j64), (0, .ref a_m), (1, .int p1), (2, .int p2)]) C d_M_type_108 0 rfl rfl (by decide) rfl rfl ?_
            refine k_goto (tgt := 69) C d_M_type_111 (by decide) ?_
            exact ih69 (l4_69 + (-1)) (v_size_69 + (1 : Int32)) (upd v_typed_69 v_size_69.toNatClampNeg ((p1 >>> (((8 : Int32) * l4_69) &&& 31)) &&& (255 : Int32))) h
    exact L69 (fun l4_69 v_size_69 v_typed_69 => (if (l3_j64 = 0 ∨ l3_j64 = 1) then some (l3_j64, v_size_69, v_typed_69) else none)) X69_0 fu (p2 - (1 : Int32)) v_size_j64 v_typed_j64 h
  have J25 : ∀ (s0_j25 : Int32) (v_size_j25 : Int32) (v_typed_j25 : Nat → Int32), f_M_type_J25 p1 p2 fu s0_j25 v_size_j25 v_typed_j25 = some (o_r, o_v_size, o_v_typed) → Wk X { frames := 1, cells := 0, slots := 0, locals := 22 } 5 D (va_A (w_M_type (cI := cI) (cJ := cJ) (cC := cC) (cZ := cZ) (cR := cR) a_m a_typed a_glob a_length a_allows a_permissions a_many a_sort a_piece a_onward a_open a_seen a_stack a_bytes a_star a_behind a_ends a_ruleOf a_classOf a_example a_set a_given a_kind a_finer a_leads a_stateOf a_setOf v_size v_rules v_items v_pieces v_first v_emptyOf v_classes v_sets v_states v_walker v_typed) (xs X).heap.size) 0 0 (GE X D (w_M_type (cI := cI) (cJ := cJ) (cC := cC) (cZ := cZ) (cR := cR) a_m a_typed a_glob a_length a_allows a_permissions a_many a_sort a_piece a_onward a_open a_seen a_stack a_bytes a_star a_behind a_ends a_ruleOf a_classOf a_example a_set a_given a_kind a_finer a_leads a_stateOf a_setOf v_size v_rules v_items v_pieces v_first v_emptyOf v_classes v_sets v_states v_walker v_typed) (fun (o : Option Value) (w : va_W) => o = some (.int o_r) ∧ w = w_M_type (cI := cI) (cJ := cJ) (cC := cC) (cZ := cZ) (cR := cR) a_m a_typed a_glob a_length a_allows a_permissions a_many a_sort a_piece a_onward a_open a_seen a_stack a_bytes a_star a_behind a_ends a_ruleOf a_classOf a_example a_set a_given a_kind a_finer a_leads a_stateOf a_setOf o_v_size v_rules v_items v_pieces v_first v_emptyOf v_classes v_sets v_states v_walker o_v_typed) 0 0) (w_M_type (cI := cI) (cJ := cJ) (cC := cC) (cZ := cZ) (cR := cR) a_m a_typed a_glob a_length a_allows a_permissions a_many a_sort a_piece a_onward a_open a_seen a_stack a_bytes a_star a_behind a_ends a_ruleOf a_classOf a_example a_set a_given a_kind a_finer a_leads a_stateOf a_setOf v_size_j25 v_rules v_items v_pieces v_first v_emptyOf v_classes v_sets v_states v_walker v_typed_j25) [(0, .ref a_m), (1, .int p1), (2, .int p2)] [.int s0_j25] 25 := by
    intro s0_j25 v_size_j25 v_typed_j25 h
    refine k_istore_n (lv' := [(3, .int s0_j25), (0, .ref a_m), (1, .int p1), (2, .int p2)]) C d_M_type_25 rfl (by decide) rfl rfl ?_
    refine k_iconst C d_M_type_26 (v := (0 : Int32)) (by decide) rfl ?_
    refine k_istore (lv' := [(4, .int (0 : Int32)), (3, .int s0_j25), (0, .ref a_m), (1, .int p1), (2, .int p2)]) C d_M_type_27 (by decide) rfl rfl ?_
    have X29_0 : ∀ (l4_29 : Int32) (l3_29 : Int32), (f_M_type_J64 p1 p2 fu l3_29 v_size_j25 v_typed_j25) = some (o_r, o_v_size, o_v_typed) → Wk X { frames := 1, cells := 0, slots := 0, locals := 22 } 5 D (va_A (w_M_type (cI := cI) (cJ := cJ) (cC := cC) (cZ := cZ) (cR := cR) a_m a_typed a_glob a_length a_allows a_permissions a_many a_sort a_piece a_onward a_open a_seen a_stack a_bytes a_star a_behind a_ends a_ruleOf a_classOf a_example a_set a_given a_kind a_finer a_leads a_stateOf a_setOf v_size v_rules v_items v_pieces v_first v_emptyOf v_classes v_sets v_states v_walker v_typed) (xs X).heap.size) 0 0 (GE X D (w_M_type (cI := cI) (cJ := cJ) (cC := cC) (cZ := cZ) (cR := cR) a_m a_typed a_glob a_length a_allows a_permissions a_many a_sort a_piece a_onward a_open a_seen a_stack a_bytes a_star a_behind a_ends a_ruleOf a_classOf a_example a_set a_given a_kind a_finer a_leads a_stateOf a_setOf v_size v_rules v_items v_pieces v_first v_emptyOf v_classes v_sets v_states v_walker v_typed) (fun (o : Option Value) (w : va_W) => o = some (.int o_r) ∧ w = w_M_type (cI := cI) (cJ := cJ) (cC := cC) (cZ := cZ) (cR := cR) a_m a_typed a_glob a_length a_allows a_permissions a_many a_sort a_piece a_onward a_open a_seen a_stack a_bytes a_star a_behind a_ends a_ruleOf a_classOf a_example a_set a_given a_kind a_finer a_leads a_stateOf a_setOf o_v_size v_rules v_items v_pieces v_first v_emptyOf v_classes v_sets v_states v_walker o_v_typed) 0 0) (w_M_type (cI := cI) (cJ := cJ) (cC := cC) (cZ := cZ) (cR := cR) a_m a_typed a_glob a_length a_allows a_permissions a_many a_sort a_piece a_onward a_open a_seen a_stack a_bytes a_star a_behind a_ends a_ruleOf a_classOf a_example a_set a_given a_kind a_finer a_leads a_stateOf a_setOf v_size_j25 v_rules v_items v_pieces v_first v_emptyOf v_classes v_sets v_states v_walker v_typed_j25) [(4, .int l4_29), (3, .int l3_29), (0, .ref a_m), (1, .int p1), (2, .int p2)] [] 64 := by
      intro l4_29 l3_29 h
      exact J64 l4_29 l3_29 v_size_j25 v_typed_j25 h
    have L29 : ∀ (kk29_0 : Int32 → Int32 → Option (Int32 × Int32 × (Nat → Int32))) (hX29_0 : ∀ (l4_29 : Int32) (l3_29 : Int32), kk29_0 l4_29 l3_29 = some (o_r, o_v_size, o_v_typed) → Wk X { frames := 1, cells := 0, slots := 0, locals := 22 } 5 D (va_A (w_M_type (cI := cI) (cJ := cJ) (cC := cC) (cZ := cZ) (cR := cR) a_m a_typed a_glob a_length a_allows a_permissions a_many a_sort a_piece a_onward a_open a_seen a_stack a_bytes a_star a_behind a_ends a_ruleOf a_classOf a_example a_set a_given a_kind a_finer a_leads a_stateOf a_setOf v_size v_rules v_items v_pieces v_first v_emptyOf v_classes v_sets v_states v_walker v_typed) (xs X).heap.size) 0 0 (GE X D (w_M_type (cI := cI) (cJ := cJ) (cC := cC) (cZ := cZ) (cR := cR) a_m a_typed a_glob a_length a_allows a_permissions a_many a_sort a_piece a_onward a_open a_seen a_stack a_bytes a_star a_behind a_ends a_ruleOf a_classOf a_example a_set a_given a_kind a_finer a_leads a_stateOf a_setOf v_size v_rules v_items v_pieces v_first v_emptyOf v_classes v_sets v_states v_walker v_typed) (fun (o : Option Value) (w : va_W) => o = some (.int o_r) ∧ w = w_M_type (cI := cI) (cJ := cJ) (cC := cC) (cZ := cZ) (cR := cR) a_m a_typed a_glob a_length a_allows a_permissions a_many a_sort a_piece a_onward a_open a_seen a_stack a_bytes a_star a_behind a_ends a_ruleOf a_classOf a_example a_set a_given a_kind a_finer a_leads a_stateOf a_setOf o_v_size v_rules v_items v_pieces v_first v_emptyOf v_classes v_sets v_states v_walker o_v_typed) 0 0) (w_M_type (cI := cI) (cJ := cJ) (cC := cC) (cZ := cZ) (cR := cR) a_m a_typed a_glob a_length a_allows a_permissions a_many a_sort a_piece a_onward a_open a_seen a_stack a_bytes a_star a_behind a_ends a_ruleOf a_classOf a_example a_set a_given a_kind a_finer a_leads a_stateOf a_setOf v_size_j25 v_rules v_items v_pieces v_first v_emptyOf v_classes v_sets v_states v_walker v_typed_j25) [(4, .int l4_29), (3, .int l3_29), (0, .ref a_m), (1, .int p1), (2, .int p2)] [] 64) (n_29 : Nat) (l4_29 : Int32) (l3_29 : Int32), f_M_type_L29 p1 p2 kk29_0 n_29 l4_29 l3_29 = some (o_r, o_v_size, o_v_typed) → Wk X { frames := 1, cells := 0, slots := 0, locals := 22 } 5 D (va_A (w_M_type (cI := cI) (cJ := cJ) (cC := cC) (cZ := cZ) (cR := cR) a_m a_typed a_glob a_length a_allows a_permissions a_many a_sort a_piece a_onward a_open a_seen a_stack a_bytes a_star a_behind a_ends a_ruleOf a_classOf a_example a_set a_given a_kind a_finer a_leads a_stateOf a_setOf v_size v_rules v_items v_pieces v_first v_emptyOf v_classes v_sets v_states v_walker v_typed) (xs X).heap.size) 0 0 (GE X D (w_M_type (cI := cI) (cJ := cJ) (cC := cC) (cZ := cZ) (cR := cR) a_m a_typed a_glob a_length a_allows a_permissions a_many a_sort a_piece a_onward a_open a_seen a_stack a_bytes a_star a_behind a_ends a_ruleOf a_classOf a_example a_set a_given a_kind a_finer a_leads a_stateOf a_setOf v_size v_rules v_items v_pieces v_first v_emptyOf v_classes v_sets v_states v_walker v_typed) (fun (o : Option Value) (w : va_W) => o = some (.int o_r) ∧ w = w_M_type (cI := cI) (cJ := cJ) (cC := cC) (cZ := cZ) (cR := cR) a_m a_typed a_glob a_length a_allows a_permissions a_many a_sort a_piece a_onward a_open a_seen a_stack a_bytes a_star a_behind a_ends a_ruleOf a_classOf a_example a_set a_given a_kind a_finer a_leads a_stateOf a_setOf o_v_size v_rules v_items v_pieces v_first v_emptyOf v_classes v_sets v_states v_walker o_v_typed) 0 0) (w_M_type (cI := cI) (cJ := cJ) (cC := cC) (cZ := cZ) (cR := cR) a_m a_typed a_glob a_length a_allows a_permissions a_many a_sort a_piece a_onward a_open a_seen a_stack a_bytes a_star a_behind a_ends a_ruleOf a_classOf a_example a_set a_given a_kind a_finer a_leads a_stateOf a_setOf v_size_j25 v_rules v_items v_pieces v_first v_emptyOf v_classes v_sets v_states v_walker v_typed_j25) [(4, .int l4_29), (3, .int l3_29), (0, .ref a_m), (1, .int p1), (2, .int p2)] [] 29 := by
      intro kk29_0 hX29_0 n_29
      induction n_29 with
      | zero =>
        intro l4_29 l3_29 h
        exact nS h
      | succ n_29 ih29 =>
        intro l4_29 l3_29 h
        replace h := (f_M_type_L29_s _ _ _ _ _ _).symm.trans h
        refine k_iload C d_M_type_29 0 rfl rfl ?_
        refine k_iload_n C d_M_type_31 rfl 4 rfl rfl ?_
        refine k_icmp_ge (tgt := 64) C d_M_type_32 (by decide) rfl (fun c5 => ?_) (fun c5 => ?_)
        · replace h := gi_t h c5
          exact hX29_0 l4_29 l3_29 h
        · replace h := gi_f h c5
          refine k_iload_n C d_M_type_35 rfl 1 rfl rfl ?_
          refine k_if_eq (tgt := 64) C d_M_type_36 (by decide) rfl (fun c6 => ?_) (fun c6 => ?_)
          · replace h := gi_t h c6
            exact hX29_0 l4_29 l3_29 h
          · replace h := gi_f h c6
            refine k_iload_n C d_M_type_39 rfl 3 rfl rfl ?_
            refine k_bipush C d_M_type_40 (v := (8 : Int32)) (by decide) rfl ?_
            refine k_iload C d_M_type_42 0 rfl rfl ?_
            refine k_imul C d_M_type_44 rfl ?_
            refine k_ishr C d_M_type_45 rfl ?_
            refine k_sipush C d_M_type_46 (v := (255 : Int32)) (by decide) rfl ?_
            refine k_iand C d_M_type_49 rfl ?_
            refine k_bipush C d_M_type_50 (v := (33 : Int32)) (by decide) rfl ?_
            refine k_bipush C d_M_type_52 (v := (126 : Int32)) (by decide) rfl ?_
            obtain ⟨r7, hc8, h⟩ := bd h
            refine k_callSd (As := [.int ((p1 >>> (((8 : Int32) * l4_29) &&& 31)) &&& (255 : Int32)), .int (33 : Int32), .int (126 : Int32)]) (st := []) (st' := [.int r7]) (wn := w_M_type (cI := cI) (cJ := cJ) (cC := cC) (cZ := cZ) (cR := cR) a_m a_typed a_glob a_length a_allows a_permissions a_many a_sort a_piece a_onward a_open a_seen a_stack a_bytes a_star a_behind a_ends a_ruleOf a_classOf a_example a_set a_given a_kind a_finer a_leads a_stateOf a_setOf v_size_j25 v_rules v_items v_pieces v_first v_emptyOf v_classes v_sets v_states v_walker v_typed_j25) C d_M_type_54 (c_M_in fu ((p1 >>> (((8 : Int32) * l4_29) &&& 31)) &&& (255 : Int32)) (33 : Int32) (126 : Int32) r7 hc8) co_M_in cos_M_in mw2 (by decide) (by decide) (Nat.le_of_ble_eq_true rfl) rfl [] [0, 1] [0, 1] rfl (by decide +kernel) rfl (by decide +kernel) (by decide +kernel) rfl (by decide +kernel) rfl rfl ?_
            refine k_istore_n (lv' := [(3, .int r7), (4, .int l4_29), (0, .ref a_m), (1, .int p1), (2, .int p2)]) C d_M_type_57 rfl (by decide) rfl rfl ?_
            refine k_iinc (lv' := [(4, .int (l4_29 + 1)), (3, .int r7), (0, .ref a_m), (1, .int p1), (2, .int p2)]) C d_M_type_58 1 rfl rfl (by decide) rfl rfl ?_
            refine k_goto (tgt := 29) C d_M_type_61 (by decide) ?_
            exact ih29 (l4_29 + 1) r7 h
    exact L29 (fun l4_29 l3_29 => (f_M_type_J64 p1 p2 fu l3_29 v_size_j25 v_typed_j25)) X29_0 fu (0 : Int32) s0_j25 h
  have J24 : ∀ (v_size_j24 : Int32) (v_typed_j24 : Nat → Int32), f_M_type_J24 p1 p2 fu v_size_j24 v_typed_j24 = some (o_r, o_v_size, o_v_typed) → Wk X { frames := 1, cells := 0, slots := 0, locals := 22 } 5 D (va_A (w_M_type (cI := cI) (cJ := cJ) (cC := cC) (cZ := cZ) (cR := cR) a_m a_typed a_glob a_length a_allows a_permissions a_many a_sort a_piece a_onward a_open a_seen a_stack a_bytes a_star a_behind a_ends a_ruleOf a_classOf a_example a_set a_given a_kind a_finer a_leads a_stateOf a_setOf v_size v_rules v_items v_pieces v_first v_emptyOf v_classes v_sets v_states v_walker v_typed) (xs X).heap.size) 0 0 (GE X D (w_M_type (cI := cI) (cJ := cJ) (cC := cC) (cZ := cZ) (cR := cR) a_m a_typed a_glob a_length a_allows a_permissions a_many a_sort a_piece a_onward a_open a_seen a_stack a_bytes a_star a_behind a_ends a_ruleOf a_classOf a_example a_set a_given a_kind a_finer a_leads a_stateOf a_setOf v_size v_rules v_items v_pieces v_first v_emptyOf v_classes v_sets v_states v_walker v_typed) (fun (o : Option Value) (w : va_W) => o = some (.int o_r) ∧ w = w_M_type (cI := cI) (cJ := cJ) (cC := cC) (cZ := cZ) (cR := cR) a_m a_typed a_glob a_length a_allows a_permissions a_many a_sort a_piece a_onward a_open a_seen a_stack a_bytes a_star a_behind a_ends a_ruleOf a_classOf a_example a_set a_given a_kind a_finer a_leads a_stateOf a_setOf o_v_size v_rules v_items v_pieces v_first v_emptyOf v_classes v_sets v_states v_walker o_v_typed) 0 0) (w_M_type (cI := cI) (cJ := cJ) (cC := cC) (cZ := cZ) (cR := cR) a_m a_typed a_glob a_length a_allows a_permissions a_many a_sort a_piece a_onward a_open a_seen a_stack a_bytes a_star a_behind a_ends a_ruleOf a_classOf a_example a_set a_given a_kind a_finer a_leads a_stateOf a_setOf v_size_j24 v_rules v_items v_pieces v_first v_emptyOf v_classes v_sets v_states v_walker v_typed_j24) [(0, .ref a_m), (1, .int p1), (2, .int p2)] [] 24 := by
    intro v_size_j24 v_typed_j24 h
    refine k_iconst C d_M_type_24 (v := (0 : Int32)) (by decide) rfl ?_
    exact J25 (0 : Int32) v_size_j24 v_typed_j24 h
  refine k_iload_n C d_M_type_0 rfl 2 rfl rfl ?_
  refine k_iconst C d_M_type_1 (v := (1 : Int32)) (by decide) rfl ?_
  refine k_iconst C d_M_type_2 (v := (4 : Int32)) (by decide) rfl ?_
  obtain ⟨r9, hc10, h⟩ := bd h
  refine k_callSd (As := [.int p2, .int (1 : Int32), .int (4 : Int32)]) (st := []) (st' := [.int r9]) (wn := w_M_type (cI := cI) (cJ := cJ) (cC := cC) (cZ := cZ) (cR := cR) a_m a_typed a_glob a_length a_allows a_permissions a_many a_sort a_piece a_onward a_open a_seen a_stack a_bytes a_star a_behind a_ends a_ruleOf a_classOf a_example a_set a_given a_kind a_finer a_leads a_stateOf a_setOf v_size v_rules v_items v_pieces v_first v_emptyOf v_classes v_sets v_states v_walker v_typed) C d_M_type_3 (c_M_in fu p2 (1 : Int32) (4 : Int32) r9 hc10) co_M_in cos_M_in mw2 (by decide) (by decide) (Nat.le_of_ble_eq_true rfl) rfl [] [0, 1] [0, 1] rfl (by decide +kernel) rfl (by decide +kernel) (by decide +kernel) rfl (by decide +kernel) rfl rfl ?_
  refine k_if_eq (tgt := 24) C d_M_type_6 (by decide) rfl (fun c11 => ?_) (fun c11 => ?_)
  · replace h := gi_t h c11
    exact J24 v_size v_typed h
  · replace h := gi_f h c11
    refine k_aload_n C d_M_type_9 rfl 0 rfl rfl ?_
    refine k_getf C d_M_type_10 hin_M rfl 1 (by decide) mw1 0 rfl rfl rfl ?_
    refine k_iload_n C d_M_type_13 rfl 2 rfl rfl ?_
    refine k_iadd C d_M_type_14 rfl ?_
    refine k_bipush C d_M_type_15 (v := (40 : Int32)) (by decide) rfl ?_
    refine k_icmp_gt (tgt := 24) C d_M_type_17 (by decide) rfl (fun c12 => ?_) (fun c12 => ?_)
    · replace h := gi_t h c12
      exact J24 v_size v_typed h
    · replace h := gi_f h c12
      refine k_iconst C d_M_type_20 (v := (1 : Int32)) (by decide) rfl ?_
      refine k_goto (tgt := 25) C d_M_type_21 (by decide) ?_
      exact J25 (1 : Int32) v_size v_typed h
theorem d_M_item_0 : decode b_M_item 0 = .ok (.aload_n 0, 1) := by decide +kernel
theorem d_M_item_1 : decode b_M_item 1 = .ok (.getfield 29, 3) := by decide +kernel
theorem d_M_item_4 : decode b_M_item 4 = .ok (.aload_n 0, 1) := by decide +kernel
theorem d_M_item_5 : decode b_M_item 5 = .ok (.getfield 98, 3) := by decide +kernel
theorem d_M_item_8 : decode b_M_item 8 = .ok (.iload_n 1, 1) := by decide +kernel
theorem d_M_item_9 : decode b_M_item 9 = .ok (.iastore, 1) := by decide +kernel
theorem d_M_item_10 : decode b_M_item 10 = .ok (.aload_n 0, 1) := by decide +kernel
theorem d_M_item_11 : decode b_M_item 11 = .ok (.getfield 32, 3) := by decide +kernel
theorem d_M_item_14 : decode b_M_item 14 = .ok (.aload_n 0, 1) := by decide +kernel
theorem d_M_item_15 : decode b_M_item 15 = .ok (.getfield 98, 3) := by decide +kernel
theorem d_M_item_18 : decode b_M_item 18 = .ok (.iload_n 2, 1) := by decide +kernel
theorem d_M_item_19 : decode b_M_item 19 = .ok (.iastore, 1) := by decide +kernel
theorem d_M_item_20 : decode b_M_item 20 = .ok (.aload_n 0, 1) := by decide +kernel
theorem d_M_item_21 : decode b_M_item 21 = .ok (.getfield 35, 3) := by decide +kernel
theorem d_M_item_24 : decode b_M_item 24 = .ok (.aload_n 0, 1) := by decide +kernel
theorem d_M_item_25 : decode b_M_item 25 = .ok (.getfield 98, 3) := by decide +kernel
theorem d_M_item_28 : decode b_M_item 28 = .ok (.iconst (-1), 1) := by decide +kernel
theorem d_M_item_29 : decode b_M_item 29 = .ok (.iastore, 1) := by decide +kernel
theorem d_M_item_30 : decode b_M_item 30 = .ok (.aload_n 0, 1) := by decide +kernel
theorem d_M_item_31 : decode b_M_item 31 = .ok (.aload_n 0, 1) := by decide +kernel
theorem d_M_item_32 : decode b_M_item 32 = .ok (.getfield 98, 3) := by decide +kernel
theorem d_M_item_35 : decode b_M_item 35 = .ok (.iconst 1, 1) := by decide +kernel
theorem d_M_item_36 : decode b_M_item 36 = .ok (.iadd, 1) := by decide +kernel
theorem d_M_item_37 : decode b_M_item 37 = .ok (.putfield 98, 3) := by decide +kernel
theorem d_M_item_40 : decode b_M_item 40 = .ok (.return_, 1) := by decide +kernel
abbrev w_M_item {cI cJ cC cZ cR : ClassId} (a_m a_typed a_glob a_length a_allows a_permissions a_many a_sort a_piece a_onward a_open a_seen a_stack a_bytes a_star a_behind a_ends a_ruleOf a_classOf a_example a_set a_given a_kind a_finer a_leads a_stateOf a_setOf : Nat) (v_size : Int32) (v_rules : Int32) (v_items : Int32) (v_pieces : Int32) (v_first : Int64) (v_emptyOf : Int32) (v_classes : Int32) (v_sets : Int32) (v_states : Int32) (v_walker : Int32) (v_sort : Nat → Int32) (v_piece : Nat → Int32) (v_onward : Nat → Int32) : va_W := [(a_m, .inr (8, [.ref a_typed, .int v_size, .int v_rules, .ref a_glob, .ref a_length, .ref a_allows, .ref a_permissions, .ref a_many, .int v_items, .ref a_sort, .ref a_piece, .ref a_onward, .ref a_open, .ref a_seen, .ref a_stack, .int v_pieces, .ref a_bytes, .ref a_star, .ref a_behind, .ref a_ends, .ref a_ruleOf, .long v_first, .int v_emptyOf, .int v_classes, .ref a_classOf, .ref a_example, .int v_sets, .ref a_set, .ref a_given, .ref a_kind, .ref a_finer, .ref a_leads, .int v_states, .ref a_stateOf, .ref a_setOf, .int v_walker])), (a_sort, .inl (cI, 42, .inl v_sort)), (a_piece, .inl (cI, 42, .inl v_piece)), (a_onward, .inl (cI, 42, .inl v_onward))]
def f_M_item (p1 : Int32) (p2 : Int32) (v_items : Int32) (v_sort : Nat → Int32) (v_piece : Nat → Int32) (v_onward : Nat → Int32) : Option (Int32 × (Nat → Int32) × (Nat → Int32) × (Nat → Int32)) := (if inB v_items 42 = true then (if inB v_items 42 = true then (if inB v_items 42 = true then some ((v_items + (1 : Int32)), (upd v_sort v_items.toNatClampNeg p1), (upd v_piece v_items.toNatClampNeg p2), (upd v_onward v_items.toNatClampNeg (-1 : Int32))) else none) else none) else none)
set_option maxRecDepth 100000 in
set_option maxHeartbeats 4000000 in
theorem c_M_item {l : Launch} {D : va_G} {cI cJ cC cZ cR : ClassId} (fu : Nat) (a_m a_typed a_glob a_length a_allows a_permissions a_many a_sort a_piece a_onward a_open a_seen a_stack a_bytes a_star a_behind a_ends a_ruleOf a_classOf a_example a_set a_given a_kind a_finer a_leads a_stateOf a_setOf : Nat)   (v_size : Int32) (v_rules : Int32) (v_items : Int32) (v_pieces : Int32) (v_first : Int64) (v_emptyOf : Int32) (v_classes : Int32) (v_sets : Int32) (v_states : Int32) (v_walker : Int32) (v_sort : Nat → Int32) (v_piece : Nat → Int32) (v_onward : Nat → Int32) (p1 : Int32) (p2 : Int32) (o_v_items : Int32) (o_v_sort : Nat → Int32) (o_v_piece : Nat → Int32) (o_v_onward : Nat → Int32) (h : f_M_item p1 p2 v_items v_sort v_piece v_onward = some (o_v_items, o_v_sort, o_v_piece, o_v_onward)) : GM l D (tysL cI cJ cC cZ cR) y_M_item b_M_item 3 none { frames := 0, cells := 0, slots := 0, locals := 0 } [.ref a_m, .int p1, .int p2] (w_M_item (cI := cI) (cJ := cJ) (cC := cC) (cZ := cZ) (cR := cR) a_m a_typed a_glob a_length a_allows a_permissions a_many a_sort a_piece a_onward a_open a_seen a_stack a_bytes a_star a_behind a_ends a_ruleOf a_classOf a_example a_set a_given a_kind a_finer a_leads a_stateOf a_setOf v_size v_rules v_items v_pieces v_first v_emptyOf v_classes v_sets v_states v_walker v_sort v_piece v_onward) (fun (o : Option Value) (w : va_W) => o = none ∧ w = w_M_item (cI := cI) (cJ := cJ) (cC := cC) (cZ := cZ) (cR := cR) a_m a_typed a_glob a_length a_allows a_permissions a_many a_sort a_piece a_onward a_open a_seen a_stack a_bytes a_star a_behind a_ends a_ruleOf a_classOf a_example a_set a_given a_kind a_finer a_leads a_stateOf a_setOf v_size v_rules o_v_items v_pieces v_first v_emptyOf v_classes v_sets v_states v_walker o_v_sort o_v_piece o_v_onward) := by
  refine GM.of (by decide) (Nat.le_of_ble_eq_true rfl) (lv := [(0, .ref a_m), (1, .int p1), (2, .int p2)]) rfl ?_
  intro X hX C
  subst hX
  refine k_aload_n C d_M_item_0 rfl 0 rfl rfl ?_
  refine k_getf C d_M_item_1 hin_M rfl 9 (by decide) mw3 0 rfl rfl rfl ?_
  refine k_aload_n C d_M_item_4 rfl 0 rfl rfl ?_
  refine k_getf C d_M_item_5 hin_M rfl 8 (by decide) mw4 0 rfl rfl rfl ?_
  refine k_iload_n C d_M_item_8 rfl 1 rfl rfl ?_
  have g1 := gd1 h
  replace h := gd2 h
  refine k_iast (ws' := w_M_item (cI := cI) (cJ := cJ) (cC := cC) (cZ := cZ) (cR := cR) a_m a_typed a_glob a_length a_allows a_permissions a_many a_sort a_piece a_onward a_open a_seen a_stack a_bytes a_star a_behind a_ends a_ruleOf a_classOf a_example a_set a_given a_kind a_finer a_leads a_stateOf a_setOf v_size v_rules v_items v_pieces v_first v_emptyOf v_classes v_sets v_states v_walker (upd v_sort v_items.toNatClampNeg p1) v_piece v_onward) C d_M_item_9 1 0 rfl rfl (inB_in g1) rfl rfl ?_
  refine k_aload_n C d_M_item_10 rfl 0 rfl rfl ?_
  refine k_getf C d_M_item_11 hin_M rfl 10 (by decide) mw5 0 rfl rfl rfl ?_
  refine k_aload_n C d_M_item_14 rfl 0 rfl rfl ?_
  refine k_getf C d_M_item_15 hin_M rfl 8 (by decide) mw4 0 rfl rfl rfl ?_
  refine k_iload_n C d_M_item_18 rfl 2 rfl rfl ?_
  have g2 := gd1 h
  replace h := gd2 h
  refine k_iast (ws' := w_M_item (cI := cI) (cJ := cJ) (cC := cC) (cZ := cZ) (cR := cR) a_m a_typed a_glob a_length a_allows a_permissions a_many a_sort a_piece a_onward a_open a_seen a_stack a_bytes a_star a_behind a_ends a_ruleOf a_classOf a_example a_set a_given a_kind a_finer a_leads a_stateOf a_setOf v_size v_rules v_items v_pieces v_first v_emptyOf v_classes v_sets v_states v_walker (upd v_sort v_items.toNatClampNeg p1) (upd v_piece v_items.toNatClampNeg p2) v_onward) C d_M_item_19 2 0 rfl rfl (inB_in g2) rfl rfl ?_
  refine k_aload_n C d_M_item_20 rfl 0 rfl rfl ?_
  refine k_getf C d_M_item_21 hin_M rfl 11 (by decide) mw6 0 rfl rfl rfl ?_
  refine k_aload_n C d_M_item_24 rfl 0 rfl rfl ?_
  refine k_getf C d_M_item_25 hin_M rfl 8 (by decide) mw4 0 rfl rfl rfl ?_
  refine k_iconst C d_M_item_28 (v := (-1 : Int32)) (by decide) rfl ?_
  have g3 := gd1 h
  replace h := gd2 h
  refine k_iast (ws' := w_M_item (cI := cI) (cJ := cJ) (cC := cC) (cZ := cZ) (cR := cR) a_m a_typed a_glob a_length a_allows a_permissions a_many a_sort a_piece a_onward a_open a_seen a_stack a_bytes a_star a_behind a_ends a_ruleOf a_classOf a_example a_set a_given a_kind a_finer a_leads a_stateOf a_setOf v_size v_rules v_items v_pieces v_first v_emptyOf v_classes v_sets v_states v_walker (upd v_sort v_items.toNatClampNeg p1) (upd v_piece v_items.toNatClampNeg p2) (upd v_onward v_items.toNatClampNeg (-1 : Int32))) C d_M_item_29 3 0 rfl rfl (inB_in g3) rfl rfl ?_
  refine k_aload_n C d_M_item_30 rfl 0 rfl rfl ?_
  refine k_aload_n C d_M_item_31 rfl 0 rfl rfl ?_
  refine k_getf C d_M_item_32 hin_M rfl 8 (by decide) mw4 0 rfl rfl rfl ?_
  refine k_iconst C d_M_item_35 (v := (1 : Int32)) (by decide) rfl ?_
  refine k_iadd C d_M_item_36 rfl ?_
  refine k_putf (ws' := w_M_item (cI := cI) (cJ := cJ) (cC := cC) (cZ := cZ) (cR := cR) a_m a_typed a_glob a_length a_allows a_permissions a_many a_sort a_piece a_onward a_open a_seen a_stack a_bytes a_star a_behind a_ends a_ruleOf a_classOf a_example a_set a_given a_kind a_finer a_leads a_stateOf a_setOf v_size v_rules (v_items + (1 : Int32)) v_pieces v_first v_emptyOf v_classes v_sets v_states v_walker (upd v_sort v_items.toNatClampNeg p1) (upd v_piece v_items.toNatClampNeg p2) (upd v_onward v_items.toNatClampNeg (-1 : Int32))) C d_M_item_37 hin_M hty_M hnn_M rfl 8 (by decide) mw4 rfl 0 rfl rfl rfl (Nat.le_of_ble_eq_true rfl) rfl rfl ?_
  exact k_vret C d_M_item_40 (tr1 h (fun t => (fun (o : Option Value) (w : va_W) => o = none ∧ w = w_M_item (cI := cI) (cJ := cJ) (cC := cC) (cZ := cZ) (cR := cR) a_m a_typed a_glob a_length a_allows a_permissions a_many a_sort a_piece a_onward a_open a_seen a_stack a_bytes a_star a_behind a_ends a_ruleOf a_classOf a_example a_set a_given a_kind a_finer a_leads a_stateOf a_setOf v_size v_rules (t.1) v_pieces v_first v_emptyOf v_classes v_sets v_states v_walker (t.2.1) (t.2.2.1) (t.2.2.2)) none (w_M_item (cI := cI) (cJ := cJ) (cC := cC) (cZ := cZ) (cR := cR) a_m a_typed a_glob a_length a_allows a_permissions a_many a_sort a_piece a_onward a_open a_seen a_stack a_bytes a_star a_behind a_ends a_ruleOf a_classOf a_example a_set a_given a_kind a_finer a_leads a_stateOf a_setOf v_size v_rules (v_items + (1 : Int32)) v_pieces v_first v_emptyOf v_classes v_sets v_states v_walker (upd v_sort v_items.toNatClampNeg p1) (upd v_piece v_items.toNatClampNeg p2) (upd v_onward v_items.toNatClampNeg (-1 : Int32)))) ⟨rfl, rfl⟩)
theorem d_M_setByte_0 : decode b_M_setByte 0 = .ok (.lconst 1, 1) := by decide +kernel
theorem d_M_setByte_1 : decode b_M_setByte 1 = .ok (.iload_n 2, 1) := by decide +kernel
theorem d_M_setByte_2 : decode b_M_setByte 2 = .ok (.bipush 64, 2) := by decide +kernel
theorem d_M_setByte_4 : decode b_M_setByte 4 = .ok (.irem, 1) := by decide +kernel
theorem d_M_setByte_5 : decode b_M_setByte 5 = .ok (.lshl, 1) := by decide +kernel
theorem d_M_setByte_6 : decode b_M_setByte 6 = .ok (.lstore 4, 2) := by decide +kernel
theorem d_M_setByte_8 : decode b_M_setByte 8 = .ok (.aload_n 0, 1) := by decide +kernel
theorem d_M_setByte_9 : decode b_M_setByte 9 = .ok (.getfield 47, 3) := by decide +kernel
theorem d_M_setByte_12 : decode b_M_setByte 12 = .ok (.iconst 4, 1) := by decide +kernel
theorem d_M_setByte_13 : decode b_M_setByte 13 = .ok (.iload_n 1, 1) := by decide +kernel
theorem d_M_setByte_14 : decode b_M_setByte 14 = .ok (.imul, 1) := by decide +kernel
theorem d_M_setByte_15 : decode b_M_setByte 15 = .ok (.iload_n 2, 1) := by decide +kernel
theorem d_M_setByte_16 : decode b_M_setByte 16 = .ok (.bipush 64, 2) := by decide +kernel
theorem d_M_setByte_18 : decode b_M_setByte 18 = .ok (.idiv, 1) := by decide +kernel
theorem d_M_setByte_19 : decode b_M_setByte 19 = .ok (.iadd, 1) := by decide +kernel
theorem d_M_setByte_20 : decode b_M_setByte 20 = .ok (.iload_n 3, 1) := by decide +kernel
theorem d_M_setByte_21 : decode b_M_setByte 21 = .ok (.ifCond .eq 22, 3) := by decide +kernel
theorem d_M_setByte_24 : decode b_M_setByte 24 = .ok (.aload_n 0, 1) := by decide +kernel
theorem d_M_setByte_25 : decode b_M_setByte 25 = .ok (.getfield 47, 3) := by decide +kernel
theorem d_M_setByte_28 : decode b_M_setByte 28 = .ok (.iconst 4, 1) := by decide +kernel
theorem d_M_setByte_29 : decode b_M_setByte 29 = .ok (.iload_n 1, 1) := by decide +kernel
theorem d_M_setByte_30 : decode b_M_setByte 30 = .ok (.imul, 1) := by decide +kernel
theorem d_M_setByte_31 : decode b_M_setByte 31 = .ok (.iload_n 2, 1) := by decide +kernel
theorem d_M_setByte_32 : decode b_M_setByte 32 = .ok (.bipush 64, 2) := by decide +kernel
theorem d_M_setByte_34 : decode b_M_setByte 34 = .ok (.idiv, 1) := by decide +kernel
theorem d_M_setByte_35 : decode b_M_setByte 35 = .ok (.iadd, 1) := by decide +kernel
theorem d_M_setByte_36 : decode b_M_setByte 36 = .ok (.laload, 1) := by decide +kernel
theorem d_M_setByte_37 : decode b_M_setByte 37 = .ok (.lload 4, 2) := by decide +kernel
theorem d_M_setByte_39 : decode b_M_setByte 39 = .ok (.lor, 1) := by decide +kernel
theorem d_M_setByte_40 : decode b_M_setByte 40 = .ok (.goto 23, 3) := by decide +kernel
theorem d_M_setByte_43 : decode b_M_setByte 43 = .ok (.aload_n 0, 1) := by decide +kernel
theorem d_M_setByte_44 : decode b_M_setByte 44 = .ok (.getfield 47, 3) := by decide +kernel
theorem d_M_setByte_47 : decode b_M_setByte 47 = .ok (.iconst 4, 1) := by decide +kernel
theorem d_M_setByte_48 : decode b_M_setByte 48 = .ok (.iload_n 1, 1) := by decide +kernel
theorem d_M_setByte_49 : decode b_M_setByte 49 = .ok (.imul, 1) := by decide +kernel
theorem d_M_setByte_50 : decode b_M_setByte 50 = .ok (.iload_n 2, 1) := by decide +kernel
theorem d_M_setByte_51 : decode b_M_setByte 51 = .ok (.bipush 64, 2) := by decide +kernel
theorem d_M_setByte_53 : decode b_M_setByte 53 = .ok (.idiv, 1) := by decide +kernel
theorem d_M_setByte_54 : decode b_M_setByte 54 = .ok (.iadd, 1) := by decide +kernel
theorem d_M_setByte_55 : decode b_M_setByte 55 = .ok (.laload, 1) := by decide +kernel
theorem d_M_setByte_56 : decode b_M_setByte 56 = .ok (.lload 4, 2) := by decide +kernel
theorem d_M_setByte_58 : decode b_M_setByte 58 = .ok (.ldc2_w 101, 3) := by decide +kernel
theorem d_M_setByte_61 : decode b_M_setByte 61 = .ok (.lxor, 1) := by decide +kernel
theorem d_M_setByte_62 : decode b_M_setByte 62 = .ok (.land, 1) := by decide +kernel
theorem d_M_setByte_63 : decode b_M_setByte 63 = .ok (.lastore, 1) := by decide +kernel
theorem d_M_setByte_64 : decode b_M_setByte 64 = .ok (.return_, 1) := by decide +kernel
abbrev w_M_setByte {cI cJ cC cZ cR : ClassId} (a_m a_typed a_glob a_length a_allows a_permissions a_many a_sort a_piece a_onward a_open a_seen a_stack a_bytes a_star a_behind a_ends a_ruleOf a_classOf a_example a_set a_given a_kind a_finer a_leads a_stateOf a_setOf : Nat) (v_size : Int32) (v_rules : Int32) (v_items : Int32) (v_pieces : Int32) (v_first : Int64) (v_emptyOf : Int32) (v_classes : Int32) (v_sets : Int32) (v_states : Int32) (v_walker : Int32) (v_bytes : Nat → Int64) : va_W := [(a_m, .inr (8, [.ref a_typed, .int v_size, .int v_rules, .ref a_glob, .ref a_length, .ref a_allows, .ref a_permissions, .ref a_many, .int v_items, .ref a_sort, .ref a_piece, .ref a_onward, .ref a_open, .ref a_seen, .ref a_stack, .int v_pieces, .ref a_bytes, .ref a_star, .ref a_behind, .ref a_ends, .ref a_ruleOf, .long v_first, .int v_emptyOf, .int v_classes, .ref a_classOf, .ref a_example, .int v_sets, .ref a_set, .ref a_given, .ref a_kind, .ref a_finer, .ref a_leads, .int v_states, .ref a_stateOf, .ref a_setOf, .int v_walker])), (a_bytes, .inl (cJ, 400, .inr (.inl v_bytes)))]
def f_M_setByte (p1 : Int32) (p2 : Int32) (p3 : Int32) (v_bytes : Nat → Int64) : Option ((Nat → Int64)) := (if (¬ (64 : Int32) = 0) then (if (¬ (64 : Int32) = 0) then (if p3 = 0 then (if (¬ (64 : Int32) = 0) then (if inB (((4 : Int32) * p1) + (p2 / (64 : Int32))) 400 = true then (if inB (((4 : Int32) * p1) + (p2 / (64 : Int32))) 400 = true then some (vp_updL v_bytes (((4 : Int32) * p1) + (p2 / (64 : Int32))).toNatClampNeg ((v_bytes (((4 : Int32) * p1) + (p2 / (64 : Int32))).toNatClampNeg) &&& ((jlshl (1 : Int64) (p2 - p2 / (64 : Int32) * (64 : Int32))) ^^^ (-1 : Int64)))) else none) else none) else none) else (if (¬ (64 : Int32) = 0) then (if inB (((4 : Int32) * p1) + (p2 / (64 : Int32))) 400 = true then (if inB (((4 : Int32) * p1) + (p2 / (64 : Int32))) 400 = true then some (vp_updL v_bytes (((4 : Int32) * p1) + (p2 / (64 : Int32))).toNatClampNeg ((v_bytes (((4 : Int32) * p1) + (p2 / (64 : Int32))).toNatClampNeg) ||| (jlshl (1 : Int64) (p2 - p2 / (64 : Int32) * (64 : Int32))))) else none) else none) else none)) else none) else none)
set_option maxRecDepth 100000 in
set_option maxHeartbeats 4000000 in
theorem c_M_setByte {l : Launch} {D : va_G} {cI cJ cC cZ cR : ClassId} (fu : Nat) (a_m a_typed a_glob a_length a_allows a_permissions a_many a_sort a_piece a_onward a_open a_seen a_stack a_bytes a_star a_behind a_ends a_ruleOf a_classOf a_example a_set a_given a_kind a_finer a_leads a_stateOf a_setOf : Nat)   (v_size : Int32) (v_rules : Int32) (v_items : Int32) (v_pieces : Int32) (v_first : Int64) (v_emptyOf : Int32) (v_classes : Int32) (v_sets : Int32) (v_states : Int32) (v_walker : Int32) (v_bytes : Nat → Int64) (p1 : Int32) (p2 : Int32) (p3 : Int32) (o_v_bytes : Nat → Int64) (h : f_M_setByte p1 p2 p3 v_bytes = some o_v_bytes) : GM l D (tysL cI cJ cC cZ cR) y_M_setByte b_M_setByte 6 none { frames := 0, cells := 0, slots := 0, locals := 0 } [.ref a_m, .int p1, .int p2, .int p3] (w_M_setByte (cI := cI) (cJ := cJ) (cC := cC) (cZ := cZ) (cR := cR) a_m a_typed a_glob a_length a_allows a_permissions a_many a_sort a_piece a_onward a_open a_seen a_stack a_bytes a_star a_behind a_ends a_ruleOf a_classOf a_example a_set a_given a_kind a_finer a_leads a_stateOf a_setOf v_size v_rules v_items v_pieces v_first v_emptyOf v_classes v_sets v_states v_walker v_bytes) (fun (o : Option Value) (w : va_W) => o = none ∧ w = w_M_setByte (cI := cI) (cJ := cJ) (cC := cC) (cZ := cZ) (cR := cR) a_m a_typed a_glob a_length a_allows a_permissions a_many a_sort a_piece a_onward a_open a_seen a_stack a_bytes a_star a_behind a_ends a_ruleOf a_classOf a_example a_set a_given a_kind a_finer a_leads a_stateOf a_setOf v_size v_rules v_items v_pieces v_first v_emptyOf v_classes v_sets v_states v_walker o_v_bytes) := by
  refine GM.of (by decide) (Nat.le_of_ble_eq_true rfl) (lv := [(0, .ref a_m), (1, .int p1), (2, .int p2), (3, .int p3)]) rfl ?_
  intro X hX C
  subst hX
  refine k_lconst C d_M_setByte_0 (v := (1 : Int64)) (by decide) rfl ?_
  refine k_iload_n C d_M_setByte_1 rfl 2 rfl rfl ?_
  refine k_bipush C d_M_setByte_2 (v := (64 : Int32)) (by decide) rfl ?_
  have g1 := gd1 h
  replace h := gd2 h
  refine k_irem C d_M_setByte_4 g1 rfl ?_
  refine k_lshl C d_M_setByte_5 rfl ?_
  refine k_lstore (lv' := [(4, .long (jlshl (1 : Int64) (p2 - p2 / (64 : Int32) * (64 : Int32)))), (0, .ref a_m), (1, .int p1), (2, .int p2), (3, .int p3)]) C d_M_setByte_6 (by decide) rfl rfl ?_
  refine k_aload_n C d_M_setByte_8 rfl 1 rfl rfl ?_
  refine k_getf C d_M_setByte_9 hin_M rfl 16 (by decide) mw7 0 rfl rfl rfl ?_
  refine k_iconst C d_M_setByte_12 (v := (4 : Int32)) (by decide) rfl ?_
  refine k_iload_n C d_M_setByte_13 rfl 2 rfl rfl ?_
  refine k_imul C d_M_setByte_14 rfl ?_
  refine k_iload_n C d_M_setByte_15 rfl 3 rfl rfl ?_
  refine k_bipush C d_M_setByte_16 (v := (64 : Int32)) (by decide) rfl ?_
  have g2 := gd1 h
  replace h := gd2 h
  refine k_idiv C d_M_setByte_18 g2 rfl ?_
  refine k_iadd C d_M_setByte_19 rfl ?_
  refine k_iload_n C d_M_setByte_20 rfl 4 rfl rfl ?_
  refine k_if_eq (tgt := 43) C d_M_setByte_21 (by decide) rfl (fun c3 => ?_) (fun c3 => ?_)
  · replace h := gi_t h c3
    refine k_aload_n C d_M_setByte_43 rfl 1 rfl rfl ?_
    refine k_getf C d_M_setByte_44 hin_M rfl 16 (by decide) mw7 0 rfl rfl rfl ?_
    refine k_iconst C d_M_setByte_47 (v := (4 : Int32)) (by decide) rfl ?_
    refine k_iload_n C d_M_setByte_48 rfl 2 rfl rfl ?_
    refine k_imul C d_M_setByte_49 rfl ?_
    refine k_iload_n C d_M_setByte_50 rfl 3 rfl rfl ?_
    refine k_bipush C d_M_setByte_51 (v := (64 : Int32)) (by decide) rfl ?_
    have g4 := gd1 h
    replace h := gd2 h
    refine k_idiv C d_M_setByte_53 g4 rfl ?_
    refine k_iadd C d_M_setByte_54 rfl ?_
    have g5 := gd1 h
    replace h := gd2 h
    refine k_lald C d_M_setByte_55 1 1 rfl rfl (inB_in g5) rfl ?_
    refine k_lload C d_M_setByte_56 0 rfl rfl ?_
    refine k_ldc2 C d_M_setByte_58 (v := (-1 : Int64)) mw8 rfl ?_
    refine k_lxor C d_M_setByte_61 rfl ?_
    refine k_land C d_M_setByte_62 rfl ?_
    have g6 := gd1 h
    replace h := gd2 h
    refine k_last (ws' := w_M_setByte (cI := cI) (cJ := cJ) (cC := cC) (cZ := cZ) (cR := cR) a_m a_typed a_glob a_length a_allows a_permissions a_many a_sort a_piece a_onward a_open a_seen a_stack a_bytes a_star a_behind a_ends a_ruleOf a_classOf a_example a_set a_given a_kind a_finer a_leads a_stateOf a_setOf v_size v_rules v_items v_pieces v_first v_emptyOf v_classes v_sets v_states v_walker (vp_updL v_bytes (((4 : Int32) * p1) + (p2 / (64 : Int32))).toNatClampNeg ((v_bytes (((4 : Int32) * p1) + (p2 / (64 : Int32))).toNatClampNeg) &&& ((jlshl (1 : Int64) (p2 - p2 / (64 : Int32) * (64 : Int32))) ^^^ (-1 : Int64))))) C d_M_setByte_63 1 1 rfl rfl (inB_in g6) rfl rfl ?_
    exact k_vret C d_M_setByte_64 (tr1 h (fun t => (fun (o : Option Value) (w : va_W) => o = none ∧ w = w_M_setByte (cI := cI) (cJ := cJ) (cC := cC) (cZ := cZ) (cR := cR) a_m a_typed a_glob a_length a_allows a_permissions a_many a_sort a_piece a_onward a_open a_seen a_stack a_bytes a_star a_behind a_ends a_ruleOf a_classOf a_example a_set a_given a_kind a_finer a_leads a_stateOf a_setOf v_size v_rules v_items v_pieces v_first v_emptyOf v_classes v_sets v_states v_walker (t)) none (w_M_setByte (cI := cI) (cJ := cJ) (cC := cC) (cZ := cZ) (cR := cR) a_m a_typed a_glob a_length a_allows a_permissions a_many a_sort a_piece a_onward a_open a_seen a_stack a_bytes a_star a_behind a_ends a_ruleOf a_classOf a_example a_set a_given a_kind a_finer a_leads a_stateOf a_setOf v_size v_rules v_items v_pieces v_first v_emptyOf v_classes v_sets v_states v_walker (vp_updL v_bytes (((4 : Int32) * p1) + (p2 / (64 : Int32))).toNatClampNeg ((v_bytes (((4 : Int32) * p1) + (p2 / (64 : Int32))).toNatClampNeg) &&& ((jlshl (1 : Int64) (p2 - p2 / (64 : Int32) * (64 : Int32))) ^^^ (-1 : Int64)))))) ⟨rfl, rfl⟩)
  · replace h := gi_f h c3
    refine k_aload_n C d_M_setByte_24 rfl 1 rfl rfl ?_
    refine k_getf C d_M_setByte_25 hin_M rfl 16 (by decide) mw7 0 rfl rfl rfl ?_
    refine k_iconst C d_M_setByte_28 (v := (4 : Int32)) (by decide) rfl ?_
    refine k_iload_n C d_M_setByte_29 rfl 2 rfl rfl ?_
    refine k_imul C d_M_setByte_30 rfl ?_
    refine k_iload_n C d_M_setByte_31 rfl 3 rfl rfl ?_
    refine k_bipush C d_M_setByte_32 (v := (64 : Int32)) (by decide) rfl ?_
    have g7 := gd1 h
    replace h := gd2 h
    refine k_idiv C d_M_setByte_34 g7 rfl ?_
    refine k_iadd C d_M_setByte_35 rfl ?_
    have g8 := gd1 h
    replace h := gd2 h
    refine k_lald C d_M_setByte_36 1 1 rfl rfl (inB_in g8) rfl ?_
    refine k_lload C d_M_setByte_37 0 rfl rfl ?_
    refine k_lor C d_M_setByte_39 rfl ?_
    refine k_goto (tgt := 63) C d_M_setByte_40 (by decide) ?_
    have g9 := gd1 h
    replace h := gd2 h
    refine k_last (ws' := w_M_setByte (cI := cI) (cJ := cJ) (cC := cC) (cZ := cZ) (cR := cR) a_m a_typed a_glob a_length a_allows a_permissions a_many a_sort a_piece a_onward a_open a_seen a_stack a_bytes a_star a_behind a_ends a_ruleOf a_classOf a_example a_set a_given a_kind a_finer a_leads a_stateOf a_setOf v_size v_rules v_items v_pieces v_first v_emptyOf v_classes v_sets v_states v_walker (vp_updL v_bytes (((4 : Int32) * p1) + (p2 / (64 : Int32))).toNatClampNeg ((v_bytes (((4 : Int32) * p1) + (p2 / (64 : Int32))).toNatClampNeg) ||| (jlshl (1 : Int64) (p2 - p2 / (64 : Int32) * (64 : Int32)))))) C d_M_setByte_63 1 1 rfl rfl (inB_in g9) rfl rfl ?_
    exact k_vret C d_M_setByte_64 (tr1 h (fun t => (fun (o : Option Value) (w : va_W) => o = none ∧ w = w_M_setByte (cI := cI) (cJ := cJ) (cC := cC) (cZ := cZ) (cR := cR) a_m a_typed a_glob a_length a_allows a_permissions a_many a_sort a_piece a_onward a_open a_seen a_stack a_bytes a_star a_behind a_ends a_ruleOf a_classOf a_example a_set a_given a_kind a_finer a_leads a_stateOf a_setOf v_size v_rules v_items v_pieces v_first v_emptyOf v_classes v_sets v_states v_walker (t)) none (w_M_setByte (cI := cI) (cJ := cJ) (cC := cC) (cZ := cZ) (cR := cR) a_m a_typed a_glob a_length a_allows a_permissions a_many a_sort a_piece a_onward a_open a_seen a_stack a_bytes a_star a_behind a_ends a_ruleOf a_classOf a_example a_set a_given a_kind a_finer a_leads a_stateOf a_setOf v_size v_rules v_items v_pieces v_first v_emptyOf v_classes v_sets v_states v_walker (vp_updL v_bytes (((4 : Int32) * p1) + (p2 / (64 : Int32))).toNatClampNeg ((v_bytes (((4 : Int32) * p1) + (p2 / (64 : Int32))).toNatClampNeg) ||| (jlshl (1 : Int64) (p2 - p2 / (64 : Int32) * (64 : Int32))))))) ⟨rfl, rfl⟩)
theorem d_M_hasByte_0 : decode b_M_hasByte 0 = .ok (.aload_n 0, 1) := by decide +kernel
theorem d_M_hasByte_1 : decode b_M_hasByte 1 = .ok (.getfield 47, 3) := by decide +kernel
theorem d_M_hasByte_4 : decode b_M_hasByte 4 = .ok (.iconst 4, 1) := by decide +kernel
theorem d_M_hasByte_5 : decode b_M_hasByte 5 = .ok (.iload_n 1, 1) := by decide +kernel
theorem d_M_hasByte_6 : decode b_M_hasByte 6 = .ok (.imul, 1) := by decide +kernel
theorem d_M_hasByte_7 : decode b_M_hasByte 7 = .ok (.iload_n 2, 1) := by decide +kernel
theorem d_M_hasByte_8 : decode b_M_hasByte 8 = .ok (.bipush 64, 2) := by decide +kernel
theorem d_M_hasByte_10 : decode b_M_hasByte 10 = .ok (.idiv, 1) := by decide +kernel
theorem d_M_hasByte_11 : decode b_M_hasByte 11 = .ok (.iadd, 1) := by decide +kernel
theorem d_M_hasByte_12 : decode b_M_hasByte 12 = .ok (.laload, 1) := by decide +kernel
theorem d_M_hasByte_13 : decode b_M_hasByte 13 = .ok (.iload_n 2, 1) := by decide +kernel
theorem d_M_hasByte_14 : decode b_M_hasByte 14 = .ok (.bipush 64, 2) := by decide +kernel
theorem d_M_hasByte_16 : decode b_M_hasByte 16 = .ok (.irem, 1) := by decide +kernel
theorem d_M_hasByte_17 : decode b_M_hasByte 17 = .ok (.lshr, 1) := by decide +kernel
theorem d_M_hasByte_18 : decode b_M_hasByte 18 = .ok (.lconst 1, 1) := by decide +kernel
theorem d_M_hasByte_19 : decode b_M_hasByte 19 = .ok (.land, 1) := by decide +kernel
theorem d_M_hasByte_20 : decode b_M_hasByte 20 = .ok (.lconst 1, 1) := by decide +kernel
theorem d_M_hasByte_21 : decode b_M_hasByte 21 = .ok (.lcmp, 1) := by decide +kernel
theorem d_M_hasByte_22 : decode b_M_hasByte 22 = .ok (.ifCond .ne 7, 3) := by decide +kernel
theorem d_M_hasByte_25 : decode b_M_hasByte 25 = .ok (.iconst 1, 1) := by decide +kernel
theorem d_M_hasByte_26 : decode b_M_hasByte 26 = .ok (.goto 4, 3) := by decide +kernel
theorem d_M_hasByte_29 : decode b_M_hasByte 29 = .ok (.iconst 0, 1) := by decide +kernel
theorem d_M_hasByte_30 : decode b_M_hasByte 30 = .ok (.ireturn, 1) := by decide +kernel
abbrev w_M_hasByte {cI cJ cC cZ cR : ClassId} (a_m a_typed a_glob a_length a_allows a_permissions a_many a_sort a_piece a_onward a_open a_seen a_stack a_bytes a_star a_behind a_ends a_ruleOf a_classOf a_example a_set a_given a_kind a_finer a_leads a_stateOf a_setOf : Nat) (v_size : Int32) (v_rules : Int32) (v_items : Int32) (v_pieces : Int32) (v_first : Int64) (v_emptyOf : Int32) (v_classes : Int32) (v_sets : Int32) (v_states : Int32) (v_walker : Int32) (v_bytes : Nat → Int64) : va_W := [(a_m, .inr (8, [.ref a_typed, .int v_size, .int v_rules, .ref a_glob, .ref a_length, .ref a_allows, .ref a_permissions, .ref a_many, .int v_items, .ref a_sort, .ref a_piece, .ref a_onward, .ref a_open, .ref a_seen, .ref a_stack, .int v_pieces, .ref a_bytes, .ref a_star, .ref a_behind, .ref a_ends, .ref a_ruleOf, .long v_first, .int v_emptyOf, .int v_classes, .ref a_classOf, .ref a_example, .int v_sets, .ref a_set, .ref a_given, .ref a_kind, .ref a_finer, .ref a_leads, .int v_states, .ref a_stateOf, .ref a_setOf, .int v_walker])), (a_bytes, .inl (cJ, 400, .inr (.inl v_bytes)))]
def f_M_hasByte (p1 : Int32) (p2 : Int32) (v_bytes : Nat → Int64) : Option (Int32) := (if (¬ (64 : Int32) = 0) then (if inB (((4 : Int32) * p1) + (p2 / (64 : Int32))) 400 = true then (if (¬ (64 : Int32) = 0) then (if (lg_cmp ((jlshr (v_bytes (((4 : Int32) * p1) + (p2 / (64 : Int32))).toNatClampNeg) (p2 - p2 / (64 : Int32) * (64 : Int32))) &&& (1 : Int64)) (1 : Int64)) = 0 then (if ((1 : Int32) = 0 ∨ (1 : Int32) = 1) then some (1 : Int32) else none) else (if ((0 : Int32) = 0 ∨ (0 : Int32) = 1) then some (0 : Int32) else none)) else none) else none) else none)
set_option maxRecDepth 100000 in
set_option maxHeartbeats 4000000 in
theorem c_M_hasByte {l : Launch} {D : va_G} {cI cJ cC cZ cR : ClassId} (fu : Nat) (a_m a_typed a_glob a_length a_allows a_permissions a_many a_sort a_piece a_onward a_open a_seen a_stack a_bytes a_star a_behind a_ends a_ruleOf a_classOf a_example a_set a_given a_kind a_finer a_leads a_stateOf a_setOf : Nat)   (v_size : Int32) (v_rules : Int32) (v_items : Int32) (v_pieces : Int32) (v_first : Int64) (v_emptyOf : Int32) (v_classes : Int32) (v_sets : Int32) (v_states : Int32) (v_walker : Int32) (v_bytes : Nat → Int64) (p1 : Int32) (p2 : Int32) (o_r : Int32) (h : f_M_hasByte p1 p2 v_bytes = some o_r) : GM l D (tysL cI cJ cC cZ cR) y_M_hasByte b_M_hasByte 3 (some (.boolean)) { frames := 0, cells := 0, slots := 0, locals := 0 } [.ref a_m, .int p1, .int p2] (w_M_hasByte (cI := cI) (cJ := cJ) (cC := cC) (cZ := cZ) (cR := cR) a_m a_typed a_glob a_length a_allows a_permissions a_many a_sort a_piece a_onward a_open a_seen a_stack a_bytes a_star a_behind a_ends a_ruleOf a_classOf a_example a_set a_given a_kind a_finer a_leads a_stateOf a_setOf v_size v_rules v_items v_pieces v_first v_emptyOf v_classes v_sets v_states v_walker v_bytes) (fun (o : Option Value) (w : va_W) => o = some (.int o_r) ∧ w = w_M_hasByte (cI := cI) (cJ := cJ) (cC := cC) (cZ := cZ) (cR := cR) a_m a_typed a_glob a_length a_allows a_permissions a_many a_sort a_piece a_onward a_open a_seen a_stack a_bytes a_star a_behind a_ends a_ruleOf a_classOf a_example a_set a_given a_kind a_finer a_leads a_stateOf a_setOf v_size v_rules v_items v_pieces v_first v_emptyOf v_classes v_sets v_states v_walker v_bytes) := by
  refine GM.of (by decide) (Nat.le_of_ble_eq_true rfl) (lv := [(0, .ref a_m), (1, .int p1), (2, .int p2)]) rfl ?_
  intro X hX C
  subst hX
  refine k_aload_n C d_M_hasByte_0 rfl 0 rfl rfl ?_
  refine k_getf C d_M_hasByte_1 hin_M rfl 16 (by decide) mw7 0 rfl rfl rfl ?_
  refine k_iconst C d_M_hasByte_4 (v := (4 : Int32)) (by decide) rfl ?_
  refine k_iload_n C d_M_hasByte_5 rfl 1 rfl rfl ?_
  refine k_imul C d_M_hasByte_6 rfl ?_
  refine k_iload_n C d_M_hasByte_7 rfl 2 rfl rfl ?_
  refine k_bipush C d_M_hasByte_8 (v := (64 : Int32)) (by decide) rfl ?_
  have g1 := gd1 h
  replace h := gd2 h
  refine k_idiv C d_M_hasByte_10 g1 rfl ?_
  refine k_iadd C d_M_hasByte_11 rfl ?_
  have g2 := gd1 h
  replace h := gd2 h
  refine k_lald C d_M_hasByte_12 1 1 rfl rfl (inB_in g2) rfl ?_
  refine k_iload_n C d_M_hasByte_13 rfl 2 rfl rfl ?_
  refine k_bipush C d_M_hasByte_14 (v := (64 : Int32)) (by decide) rfl ?_
  have g3 := gd1 h
  replace h := gd2 h
  refine k_irem C d_M_hasByte_16 g3 rfl ?_
  refine k_lshr C d_M_hasByte_17 rfl ?_
  refine k_lconst C d_M_hasByte_18 (v := (1 : Int64)) (by decide) rfl ?_
  refine k_land C d_M_hasByte_19 rfl ?_
  refine k_lconst C d_M_hasByte_20 (v := (1 : Int64)) (by decide) rfl ?_
  refine k_lcmp C d_M_hasByte_21 rfl ?_
  refine k_if_ne (tgt := 29) C d_M_hasByte_22 (by decide) rfl (fun c4 => ?_) (fun c4 => ?_)
  · replace h := gi_f h c4
    refine k_iconst C d_M_hasByte_29 (v := (0 : Int32)) (by decide) rfl ?_
    have g5 := gd1 h
    replace h := gd2 h
    exact k_zret C d_M_hasByte_30 (nz_bool g5) (tr1 h (fun t => (fun (o : Option Value) (w : va_W) => o = some (.int (t)) ∧ w = w_M_hasByte (cI := cI) (cJ := cJ) (cC := cC) (cZ := cZ) (cR := cR) a_m a_typed a_glob a_length a_allows a_permissions a_many a_sort a_piece a_onward a_open a_seen a_stack a_bytes a_star a_behind a_ends a_ruleOf a_classOf a_example a_set a_given a_kind a_finer a_leads a_stateOf a_setOf v_size v_rules v_items v_pieces v_first v_emptyOf v_classes v_sets v_states v_walker v_bytes) (some (Value.int (0 : Int32))) (w_M_hasByte (cI := cI) (cJ := cJ) (cC := cC) (cZ := cZ) (cR := cR) a_m a_typed a_glob a_length a_allows a_permissions a_many a_sort a_piece a_onward a_open a_seen a_stack a_bytes a_star a_behind a_ends a_ruleOf a_classOf a_example a_set a_given a_kind a_finer a_leads a_stateOf a_setOf v_size v_rules v_items v_pieces v_first v_emptyOf v_classes v_sets v_states v_walker v_bytes)) ⟨rfl, rfl⟩)
  · replace h := gi_t h c4
    refine k_iconst C d_M_hasByte_25 (v := (1 : Int32)) (by decide) rfl ?_
    refine k_goto (tgt := 30) C d_M_hasByte_26 (by decide) ?_
    have g6 := gd1 h
    replace h := gd2 h
    exact k_zret C d_M_hasByte_30 (nz_bool g6) (tr1 h (fun t => (fun (o : Option Value) (w : va_W) => o = some (.int (t)) ∧ w = w_M_hasByte (cI := cI) (cJ := cJ) (cC := cC) (cZ := cZ) (cR := cR) a_m a_typed a_glob a_length a_allows a_permissions a_many a_sort a_piece a_onward a_open a_seen a_stack a_bytes a_star a_behind a_ends a_ruleOf a_classOf a_example a_set a_given a_kind a_finer a_leads a_stateOf a_setOf v_size v_rules v_items v_pieces v_first v_emptyOf v_classes v_sets v_states v_walker v_bytes) (some (Value.int (1 : Int32))) (w_M_hasByte (cI := cI) (cJ := cJ) (cC := cC) (cZ := cZ) (cR := cR) a_m a_typed a_glob a_length a_allows a_permissions a_many a_sort a_piece a_onward a_open a_seen a_stack a_bytes a_star a_behind a_ends a_ruleOf a_classOf a_example a_set a_given a_kind a_finer a_leads a_stateOf a_setOf v_size v_rules v_items v_pieces v_first v_emptyOf v_classes v_sets v_states v_walker v_bytes)) ⟨rfl, rfl⟩)
theorem d_M_newPiece_0 : decode b_M_newPiece 0 = .ok (.iconst 0, 1) := by decide +kernel
theorem d_M_newPiece_1 : decode b_M_newPiece 1 = .ok (.istore_n 2, 1) := by decide +kernel
theorem d_M_newPiece_2 : decode b_M_newPiece 2 = .ok (.iload_n 2, 1) := by decide +kernel
theorem d_M_newPiece_3 : decode b_M_newPiece 3 = .ok (.iconst 4, 1) := by decide +kernel
theorem d_M_newPiece_4 : decode b_M_newPiece 4 = .ok (.if_icmp .ge 33, 3) := by decide +kernel
theorem d_M_newPiece_7 : decode b_M_newPiece 7 = .ok (.aload_n 0, 1) := by decide +kernel
theorem d_M_newPiece_8 : decode b_M_newPiece 8 = .ok (.getfield 47, 3) := by decide +kernel
theorem d_M_newPiece_11 : decode b_M_newPiece 11 = .ok (.iconst 4, 1) := by decide +kernel
theorem d_M_newPiece_12 : decode b_M_newPiece 12 = .ok (.aload_n 0, 1) := by decide +kernel
theorem d_M_newPiece_13 : decode b_M_newPiece 13 = .ok (.getfield 103, 3) := by decide +kernel
theorem d_M_newPiece_16 : decode b_M_newPiece 16 = .ok (.imul, 1) := by decide +kernel
theorem d_M_newPiece_17 : decode b_M_newPiece 17 = .ok (.iload_n 2, 1) := by decide +kernel
theorem d_M_newPiece_18 : decode b_M_newPiece 18 = .ok (.iadd, 1) := by decide +kernel
theorem d_M_newPiece_19 : decode b_M_newPiece 19 = .ok (.iload_n 1, 1) := by decide +kernel
theorem d_M_newPiece_20 : decode b_M_newPiece 20 = .ok (.ifCond .eq 9, 3) := by decide +kernel
theorem d_M_newPiece_23 : decode b_M_newPiece 23 = .ok (.ldc2_w 101, 3) := by decide +kernel
theorem d_M_newPiece_26 : decode b_M_newPiece 26 = .ok (.goto 4, 3) := by decide +kernel
theorem d_M_newPiece_29 : decode b_M_newPiece 29 = .ok (.lconst 0, 1) := by decide +kernel
theorem d_M_newPiece_30 : decode b_M_newPiece 30 = .ok (.lastore, 1) := by decide +kernel
theorem d_M_newPiece_31 : decode b_M_newPiece 31 = .ok (.iinc 2 1, 3) := by decide +kernel
theorem d_M_newPiece_34 : decode b_M_newPiece 34 = .ok (.goto (-32), 3) := by decide +kernel
theorem d_M_newPiece_37 : decode b_M_newPiece 37 = .ok (.aload_n 0, 1) := by decide +kernel
theorem d_M_newPiece_38 : decode b_M_newPiece 38 = .ok (.getfield 51, 3) := by decide +kernel
theorem d_M_newPiece_41 : decode b_M_newPiece 41 = .ok (.aload_n 0, 1) := by decide +kernel
theorem d_M_newPiece_42 : decode b_M_newPiece 42 = .ok (.getfield 103, 3) := by decide +kernel
theorem d_M_newPiece_45 : decode b_M_newPiece 45 = .ok (.iconst 0, 1) := by decide +kernel
theorem d_M_newPiece_46 : decode b_M_newPiece 46 = .ok (.bastore, 1) := by decide +kernel
theorem d_M_newPiece_47 : decode b_M_newPiece 47 = .ok (.aload_n 0, 1) := by decide +kernel
theorem d_M_newPiece_48 : decode b_M_newPiece 48 = .ok (.aload_n 0, 1) := by decide +kernel
theorem d_M_newPiece_49 : decode b_M_newPiece 49 = .ok (.getfield 103, 3) := by decide +kernel
theorem d_M_newPiece_52 : decode b_M_newPiece 52 = .ok (.iconst 1, 1) := by decide +kernel
theorem d_M_newPiece_53 : decode b_M_newPiece 53 = .ok (.iadd, 1) := by decide +kernel
theorem d_M_newPiece_54 : decode b_M_newPiece 54 = .ok (.putfield 103, 3) := by decide +kernel
theorem d_M_newPiece_57 : decode b_M_newPiece 57 = .ok (.aload_n 0, 1) := by decide +kernel
theorem d_M_newPiece_58 : decode b_M_newPiece 58 = .ok (.getfield 103, 3) := by decide +kernel
theorem d_M_newPiece_61 : decode b_M_newPiece 61 = .ok (.iconst 1, 1) := by decide +kernel
theorem d_M_newPiece_62 : decode b_M_newPiece 62 = .ok (.isub, 1) := by decide +kernel
theorem d_M_newPiece_63 : decode b_M_newPiece 63 = .ok (.ireturn, 1) := by decide +kernel
abbrev w_M_newPiece {cI cJ cC cZ cR : ClassId} (a_m a_typed a_glob a_length a_allows a_permissions a_many a_sort a_piece a_onward a_open a_seen a_stack a_bytes a_star a_behind a_ends a_ruleOf a_classOf a_example a_set a_given a_kind a_finer a_leads a_stateOf a_setOf : Nat) (v_size : Int32) (v_rules : Int32) (v_items : Int32) (v_pieces : Int32) (v_first : Int64) (v_emptyOf : Int32) (v_classes : Int32) (v_sets : Int32) (v_states : Int32) (v_walker : Int32) (v_bytes : Nat → Int64) (v_star : Nat → Int32) : va_W := [(a_m, .inr (8, [.ref a_typed, .int v_size, .int v_rules, .ref a_glob, .ref a_length, .ref a_allows, .ref a_permissions, .ref a_many, .int v_items, .ref a_sort, .ref a_piece, .ref a_onward, .ref a_open, .ref a_seen, .ref a_stack, .int v_pieces, .ref a_bytes, .ref a_star, .ref a_behind, .ref a_ends, .ref a_ruleOf, .long v_first, .int v_emptyOf, .int v_classes, .ref a_classOf, .ref a_example, .int v_sets, .ref a_set, .ref a_given, .ref a_kind, .ref a_finer, .ref a_leads, .int v_states, .ref a_stateOf, .ref a_setOf, .int v_walker])), (a_bytes, .inl (cJ, 400, .inr (.inl v_bytes))), (a_star, .inl (cZ, 100, .inl v_star))]
def f_M_newPiece_L2 (v_pieces : Int32) (p1 : Int32) (kk2_0 : Int32 → (Nat → Int64) → Option (Int32 × Int32 × (Nat → Int64) × (Nat → Int32))) : Nat → Int32 → (Nat → Int64) → Option (Int32 × Int32 × (Nat → Int64) × (Nat → Int32))
  | 0, _, _ => none
  | n_2 + 1, l2_2, v_bytes_2 => (if (4 : Int32) ≤ l2_2 then (kk2_0 l2_2 v_bytes_2) else (if p1 = 0 then (if inB (((4 : Int32) * v_pieces) + l2_2) 400 = true then (f_M_newPiece_L2 v_pieces p1 kk2_0 n_2 (l2_2 + 1) (vp_updL v_bytes_2 (((4 : Int32) * v_pieces) + l2_2).toNatClampNeg (0 : Int64))) else none) else (if inB (((4 : Int32) * v_pieces) + l2_2) 400 = true then (f_M_newPiece_L2 v_pieces p1 kk2_0 n_2 (l2_2 + 1) (vp_updL v_bytes_2 (((4 : Int32) * v_pieces) + l2_2).toNatClampNeg (-1 : Int64))) else none)))
theorem f_M_newPiece_L2_s (v_pieces : Int32) (p1 : Int32) (kk2_0 : Int32 → (Nat → Int64) → Option (Int32 × Int32 × (Nat → Int64) × (Nat → Int32))) (n_2 : Nat) (l2_2 : Int32) (v_bytes_2 : Nat → Int64) : f_M_newPiece_L2 v_pieces p1 kk2_0 (n_2 + 1) l2_2 v_bytes_2 = (if (4 : Int32) ≤ l2_2 then (kk2_0 l2_2 v_bytes_2) else (if p1 = 0 then (if inB (((4 : Int32) * v_pieces) + l2_2) 400 = true then (f_M_newPiece_L2 v_pieces p1 kk2_0 n_2 (l2_2 + 1) (vp_updL v_bytes_2 (((4 : Int32) * v_pieces) + l2_2).toNatClampNeg (0 : Int64))) else none) else (if inB (((4 : Int32) * v_pieces) + l2_2) 400 = true then (f_M_newPiece_L2 v_pieces p1 kk2_0 n_2 (l2_2 + 1) (vp_updL v_bytes_2 (((4 : Int32) * v_pieces) + l2_2).toNatClampNeg (-1 : Int64))) else none))) := rfl
def f_M_newPiece (fu : Nat) (p1 : Int32) (v_pieces : Int32) (v_bytes : Nat → Int64) (v_star : Nat → Int32) : Option (Int32 × Int32 × (Nat → Int64) × (Nat → Int32)) := (f_M_newPiece_L2 v_pieces p1 (fun l2_2 v_bytes_2 => (if inB v_pieces 100 = true then some (((v_pieces + (1 : Int32)) - (1 : Int32)), (v_pieces + (1 : Int32)), v_bytes_2, (upd v_star v_pieces.toNatClampNeg (vp_nar .boolean (0 : Int32)))) else none)) fu (0 : Int32) v_bytes)
set_option maxRecDepth 100000 in
set_option maxHeartbeats 4000000 in
theorem c_M_newPiece {l : Launch} {D : va_G} {cI cJ cC cZ cR : ClassId} (fu : Nat) (a_m a_typed a_glob a_length a_allows a_permissions a_many a_sort a_piece a_onward a_open a_seen a_stack a_bytes a_star a_behind a_ends a_ruleOf a_classOf a_example a_set a_given a_kind a_finer a_leads a_stateOf a_setOf : Nat)   (v_size : Int32) (v_rules : Int32) (v_items : Int32) (v_pieces : Int32) (v_first : Int64) (v_emptyOf : Int32) (v_classes : Int32) (v_sets : Int32) (v_states : Int32) (v_walker : Int32) (v_bytes : Nat → Int64) (v_star : Nat → Int32) (p1 : Int32) (o_r : Int32) (o_v_pieces : Int32) (o_v_bytes : Nat → Int64) (o_v_star : Nat → Int32) (h : f_M_newPiece fu p1 v_pieces v_bytes v_star = some (o_r, o_v_pieces, o_v_bytes, o_v_star)) : GM l D (tysL cI cJ cC cZ cR) y_M_newPiece b_M_newPiece 3 (some (.int)) { frames := 0, cells := 0, slots := 0, locals := 0 } [.ref a_m, .int p1] (w_M_newPiece (cI := cI) (cJ := cJ) (cC := cC) (cZ := cZ) (cR := cR) a_m a_typed a_glob a_length a_allows a_permissions a_many a_sort a_piece a_onward a_open a_seen a_stack a_bytes a_star a_behind a_ends a_ruleOf a_classOf a_example a_set a_given a_kind a_finer a_leads a_stateOf a_setOf v_size v_rules v_items v_pieces v_first v_emptyOf v_classes v_sets v_states v_walker v_bytes v_star) (fun (o : Option Value) (w : va_W) => o = some (.int o_r) ∧ w = w_M_newPiece (cI := cI) (cJ := cJ) (cC := cC) (cZ := cZ) (cR := cR) a_m a_typed a_glob a_length a_allows a_permissions a_many a_sort a_piece a_onward a_open a_seen a_stack a_bytes a_star a_behind a_ends a_ruleOf a_classOf a_example a_set a_given a_kind a_finer a_leads a_stateOf a_setOf v_size v_rules v_items o_v_pieces v_first v_emptyOf v_classes v_sets v_states v_walker o_v_bytes o_v_star) := by
  refine GM.of (by decide) (Nat.le_of_ble_eq_true rfl) (lv := [(0, .ref a_m), (1, .int p1)]) rfl ?_
  intro X hX C
  subst hX
  refine k_iconst C d_M_newPiece_0 (v := (0 : Int32)) (by decide) rfl ?_
  refine k_istore_n (lv' := [(2, .int (0 : Int32)), (0, .ref a_m), (1, .int p1)]) C d_M_newPiece_1 rfl (by decide) rfl rfl ?_
  have X2_0 : ∀ (l2_2 : Int32) (v_bytes_2 : Nat → Int64), (if inB v_pieces 100 = true then some (((v_pieces + (1 : Int32)) - (1 : Int32)), (v_pieces + (1 : Int32)), v_bytes_2, (upd v_star v_pieces.toNatClampNeg (vp_nar .boolean (0 : Int32)))) else none) = some (o_r, o_v_pieces, o_v_bytes, o_v_star) → Wk X { frames := 0, cells := 0, slots := 0, locals := 0 } 3 D (va_A (w_M_newPiece (cI := cI) (cJ := cJ) (cC := cC) (cZ := cZ) (cR := cR) a_m a_typed a_glob a_length a_allows a_permissions a_many a_sort a_piece a_onward a_open a_seen a_stack a_bytes a_star a_behind a_ends a_ruleOf a_classOf a_example a_set a_given a_kind a_finer a_leads a_stateOf a_setOf v_size v_rules v_items v_pieces v_first v_emptyOf v_classes v_sets v_states v_walker v_bytes v_star) (xs X).heap.size) 0 0 (GE X D (w_M_newPiece (cI := cI) (cJ := cJ) (cC := cC) (cZ := cZ) (cR := cR) a_m a_typed a_glob a_length a_allows a_permissions a_many a_sort a_piece a_onward a_open a_seen a_stack a_bytes a_star a_behind a_ends a_ruleOf a_classOf a_example a_set a_given a_kind a_finer a_leads a_stateOf a_setOf v_size v_rules v_items v_pieces v_first v_emptyOf v_classes v_sets v_states v_walker v_bytes v_star) (fun (o : Option Value) (w : va_W) => o = some (.int o_r) ∧ w = w_M_newPiece (cI := cI) (cJ := cJ) (cC := cC) (cZ := cZ) (cR := cR) a_m a_typed a_glob a_length a_allows a_permissions a_many a_sort a_piece a_onward a_open a_seen a_stack a_bytes a_star a_behind a_ends a_ruleOf a_classOf a_example a_set a_given a_kind a_finer a_leads a_stateOf a_setOf v_size v_rules v_items o_v_pieces v_first v_emptyOf v_classes v_sets v_states v_walker o_v_bytes o_v_star) 0 0) (w_M_newPiece (cI := cI) (cJ := cJ) (cC := cC) (cZ := cZ) (cR := cR) a_m a_typed a_glob a_length a_allows a_permissions a_many a_sort a_piece a_onward a_open a_seen a_stack a_bytes a_star a_behind a_ends a_ruleOf a_classOf a_example a_set a_given a_kind a_finer a_leads a_stateOf a_setOf v_size v_rules v_items v_pieces v_first v_emptyOf v_classes v_sets v_states v_walker v_bytes_2 v_star) [(2, .int l2_2), (0, .ref a_m), (1, .int p1)] [] 37 := by
    intro l2_2 v_bytes_2 h
    refine k_aload_n C d_M_newPiece_37 rfl 1 rfl rfl ?_
    refine k_getf C d_M_newPiece_38 hin_M rfl 17 (by decide) mw9 0 rfl rfl rfl ?_
    refine k_aload_n C d_M_newPiece_41 rfl 1 rfl rfl ?_
    refine k_getf C d_M_newPiece_42 hin_M rfl 15 (by decide) mw10 0 rfl rfl rfl ?_
    refine k_iconst C d_M_newPiece_45 (v := (0 : Int32)) (by decide) rfl ?_
    have g5 := gd1 h
    replace h := gd2 h
    refine k_zast (ws' := w_M_newPiece (cI := cI) (cJ := cJ) (cC := cC) (cZ := cZ) (cR := cR) a_m a_typed a_glob a_length a_allows a_permissions a_many a_sort a_piece a_onward a_open a_seen a_stack a_bytes a_star a_behind a_ends a_ruleOf a_classOf a_example a_set a_given a_kind a_finer a_leads a_stateOf a_setOf v_size v_rules v_items v_pieces v_first v_emptyOf v_classes v_sets v_states v_walker v_bytes_2 (upd v_star v_pieces.toNatClampNeg (vp_nar .boolean (0 : Int32)))) C d_M_newPiece_46 2 3 rfl rfl (inB_in g5) rfl rfl ?_
    refine k_aload_n C d_M_newPiece_47 rfl 1 rfl rfl ?_
    refine k_aload_n C d_M_newPiece_48 rfl 1 rfl rfl ?_
    refine k_getf C d_M_newPiece_49 hin_M rfl 15 (by decide) mw10 0 rfl rfl rfl ?_
    refine k_iconst C d_M_newPiece_52 (v := (1 : Int32)) (by decide) rfl ?_
    refine k_iadd C d_M_newPiece_53 rfl ?_
    refine k_putf (ws' := w_M_newPiece (cI := cI) (cJ := cJ) (cC := cC) (cZ := cZ) (cR := cR) a_m a_typed a_glob a_length a_allows a_permissions a_many a_sort a_piece a_onward a_open a_seen a_stack a_bytes a_star a_behind a_ends a_ruleOf a_classOf a_example a_set a_given a_kind a_finer a_leads a_stateOf a_setOf v_size v_rules v_items (v_pieces + (1 : Int32)) v_first v_emptyOf v_classes v_sets v_states v_walker v_bytes_2 (upd v_star v_pieces.toNatClampNeg (vp_nar .boolean (0 : Int32)))) C d_M_newPiece_54 hin_M hty_M hnn_M rfl 15 (by decide) mw10 rfl 0 rfl rfl rfl (Nat.le_of_ble_eq_true rfl) rfl rfl ?_
    refine k_aload_n C d_M_newPiece_57 rfl 1 rfl rfl ?_
    refine k_getf C d_M_newPiece_58 hin_M rfl 15 (by decide) mw10 0 rfl rfl rfl ?_
    refine k_iconst C d_M_newPiece_61 (v := (1 : Int32)) (by decide) rfl ?_
    refine k_isub C d_M_newPiece_62 rfl ?_
    exact k_iret C d_M_newPiece_63 (tr1 h (fun t => (fun (o : Option Value) (w : va_W) => o = some (.int (t.1)) ∧ w = w_M_newPiece (cI := cI) (cJ := cJ) (cC := cC) (cZ := cZ) (cR := cR) a_m a_typed a_glob a_length a_allows a_permissions a_many a_sort a_piece a_onward a_open a_seen a_stack a_bytes a_star a_behind a_ends a_ruleOf a_classOf a_example a_set a_given a_kind a_finer a_leads a_stateOf a_setOf v_size v_rules v_items (t.2.1) v_first v_emptyOf v_classes v_sets v_states v_walker (t.2.2.1) (t.2.2.2)) (some (Value.int ((v_pieces + (1 : Int32)) - (1 : Int32)))) (w_M_newPiece (cI := cI) (cJ := cJ) (cC := cC) (cZ := cZ) (cR := cR) a_m a_typed a_glob a_length a_allows a_permissions a_many a_sort a_piece a_onward a_open a_seen a_stack a_bytes a_star a_behind a_ends a_ruleOf a_classOf a_example a_set a_given a_kind a_finer a_leads a_stateOf a_setOf v_size v_rules v_items (v_pieces + (1 : Int32)) v_first v_emptyOf v_classes v_sets v_states v_walker v_bytes_2 (upd v_star v_pieces.toNatClampNeg (vp_nar .boolean (0 : Int32))))) ⟨rfl, rfl⟩)
  have L2 : ∀ (kk2_0 : Int32 → (Nat → Int64) → Option (Int32 × Int32 × (Nat → Int64) × (Nat → Int32))) (hX2_0 : ∀ (l2_2 : Int32) (v_bytes_2 : Nat → Int64), kk2_0 l2_2 v_bytes_2 = some (o_r, o_v_pieces, o_v_bytes, o_v_star) → Wk X { frames := 0, cells := 0, slots := 0, locals := 0 } 3 D (va_A (w_M_newPiece (cI := cI) (cJ := cJ) (cC := cC) (cZ := cZ) (cR := cR) a_m a_typed a_glob a_length a_allows a_permissions a_many a_sort a_piece a_onward a_open a_seen a_stack a_bytes a_star a_behind a_ends a_ruleOf a_classOf a_example a_set a_given a_kind a_finer a_leads a_stateOf a_setOf v_size v_rules v_items v_pieces v_first v_emptyOf v_classes v_sets v_states v_walker v_bytes v_star) (xs X).heap.size) 0 0 (GE X D (w_M_newPiece (cI := cI) (cJ := cJ) (cC := cC) (cZ := cZ) (cR := cR) a_m a_typed a_glob a_length a_allows a_permissions a_many a_sort a_piece a_onward a_open a_seen a_stack a_bytes a_star a_behind a_ends a_ruleOf a_classOf a_example a_set a_given a_kind a_finer a_leads a_stateOf a_setOf v_size v_rules v_items v_pieces v_first v_emptyOf v_classes v_sets v_states v_walker v_bytes v_star) (fun (o : Option Value) (w : va_W) => o = some (.int o_r) ∧ w = w_M_newPiece (cI := cI) (cJ := cJ) (cC := cC) (cZ := cZ) (cR := cR) a_m a_typed a_glob a_length a_allows a_permissions a_many a_sort a_piece a_onward a_open a_seen a_stack a_bytes a_star a_behind a_ends a_ruleOf a_classOf a_example a_set a_given a_kind a_finer a_leads a_stateOf a_setOf v_size v_rules v_items o_v_pieces v_first v_emptyOf v_classes v_sets v_states v_walker o_v_bytes o_v_star) 0 0) (w_M_newPiece (cI := cI) (cJ := cJ) (cC := cC) (cZ := cZ) (cR := cR) a_m a_typed a_glob a_length a_allows a_permissions a_many a_sort a_piece a_onward a_open a_seen a_stack a_bytes a_star a_behind a_ends a_ruleOf a_classOf a_example a_set a_given a_kind a_finer a_leads a_stateOf a_setOf v_size v_rules v_items v_pieces v_first v_emptyOf v_classes v_sets v_states v_walker v_bytes_2 v_star) [(2, .int l2_2), (0, .ref a_m), (1, .int p1)] [] 37) (n_2 : Nat) (l2_2 : Int32) (v_bytes_2 : Nat → Int64), f_M_newPiece_L2 v_pieces p1 kk2_0 n_2 l2_2 v_bytes_2 = some (o_r, o_v_pieces, o_v_bytes, o_v_star) → Wk X { frames := 0, cells := 0, slots := 0, locals := 0 } 3 D (va_A (w_M_newPiece (cI := cI) (cJ := cJ) (cC := cC) (cZ := cZ) (cR := cR) a_m a_typed a_glob a_length a_allows a_permissions a_many a_sort a_piece a_onward a_open a_seen a_stack a_bytes a_star a_behind a_ends a_ruleOf a_classOf a_example a_set a_given a_kind a_finer a_leads a_stateOf a_setOf v_size v_rules v_items v_pieces v_first v_emptyOf v_classes v_sets v_states v_walker v_bytes v_star) (xs X).heap.size) 0 0 (GE X D (w_M_newPiece (cI := cI) (cJ := cJ) (cC := cC) (cZ := cZ) (cR := cR) a_m a_typed a_glob a_length a_allows a_permissions a_many a_sort a_piece a_onward a_open a_seen a_stack a_bytes a_star a_behind a_ends a_ruleOf a_classOf a_example a_set a_given a_kind a_finer a_leads a_stateOf a_setOf v_size v_rules v_items v_pieces v_first v_emptyOf v_classes v_sets v_states v_walker v_bytes v_star) (fun (o : Option Value) (w : va_W) => o = some (.int o_r) ∧ w = w_M_newPiece (cI := cI) (cJ := cJ) (cC := cC) (cZ := cZ) (cR := cR) a_m a_typed a_glob a_length a_allows a_permissions a_many a_sort a_piece a_onward a_open a_seen a_stack a_bytes a_star a_behind a_ends a_ruleOf a_classOf a_example a_set a_given a_kind a_finer a_leads a_stateOf a_setOf v_size v_rules v_items o_v_pieces v_first v_emptyOf v_classes v_sets v_states v_walker o_v_bytes o_v_star) 0 0) (w_M_newPiece (cI := cI) (cJ := cJ) (cC := cC) (cZ := cZ) (cR := cR) a_m a_typed a_glob a_length a_allows a_permissions a_many a_sort a_piece a_onward a_open a_seen a_stack a_bytes a_star a_behind a_ends a_ruleOf a_classOf a_example a_set a_given a_kind a_finer a_leads a_stateOf a_setOf v_size v_rules v_items v_pieces v_first v_emptyOf v_classes v_sets v_states v_walker v_bytes_2 v_star) [(2, .int l2_2), (0, .ref a_m), (1, .int p1)] [] 2 := by
    intro kk2_0 hX2_0 n_2
    induction n_2 with
    | zero =>
      intro l2_2 v_bytes_2 h
      exact nS h
    | succ n_2 ih2 =>
      intro l2_2 v_bytes_2 h
      replace h := (f_M_newPiece_L2_s _ _ _ _ _ _).symm.trans h
      refine k_iload_n C d_M_newPiece_2 rfl 0 rfl rfl ?_
      refine k_iconst C d_M_newPiece_3 (v := (4 : Int32)) (by decide) rfl ?_
      refine k_icmp_ge (tgt := 37) C d_M_newPiece_4 (by decide) rfl (fun c1 => ?_) (fun c1 => ?_)
      · replace h := gi_t h c1
        exact hX2_0 l2_2 v_bytes_2 h
      · replace h := gi_f h c1
        refine k_aload_n C d_M_newPiece_7 rfl 1 rfl rfl ?_
        refine k_getf C d_M_newPiece_8 hin_M rfl 16 (by decide) mw7 0 rfl rfl rfl ?_
        refine k_iconst C d_M_newPiece_11 (v := (4 : Int32)) (by decide) rfl ?_
        refine k_aload_n C d_M_newPiece_12 rfl 1 rfl rfl ?_
        refine k_getf C d_M_newPiece_13 hin_M rfl 15 (by decide) mw10 0 rfl rfl rfl ?_
        refine k_imul C d_M_newPiece_16 rfl ?_
        refine k_iload_n C d_M_newPiece_17 rfl 0 rfl rfl ?_
        refine k_iadd C d_M_newPiece_18 rfl ?_
        refine k_iload_n C d_M_newPiece_19 rfl 2 rfl rfl ?_
        refine k_if_eq (tgt := 29) C d_M_newPiece_20 (by decide) rfl (fun c2 => ?_) (fun c2 => ?_)
        · replace h := gi_t h c2
          refine k_lconst C d_M_newPiece_29 (v := (0 : Int64)) (by decide) rfl ?_
          have g3 := gd1 h
          replace h := gd2 h
          refine k_last (ws' := w_M_newPiece (cI := cI) (cJ := cJ) (cC := cC) (cZ := cZ) (cR := cR) a_m a_typed a_glob a_length a_allows a_permissions a_many a_sort a_piece a_onward a_open a_seen a_stack a_bytes a_star a_behind a_ends a_ruleOf a_classOf a_example a_set a_given a_kind a_finer a_leads a_stateOf a_setOf v_size v_rules v_items v_pieces v_first v_emptyOf v_classes v_sets v_states v_walker (vp_updL v_bytes_2 (((4 : Int32) * v_pieces) + l2_2).toNatClampNeg (0 : Int64)) v_star) C d_M_newPiece_30 1 1 rfl rfl (inB_in g3) rfl rfl ?_
          refine k_iinc (lv' := [(2, .int (l2_2 + 1)), (0, .ref a_m), (1, .int p1)]) C d_M_newPiece_31 0 rfl rfl (by decide) rfl rfl ?_
          refine k_goto (tgt := 2) C d_M_newPiece_34 (by decide) ?_
          exact ih2 (l2_2 + 1) (vp_updL v_bytes_2 (((4 : Int32) * v_pieces) + l2_2).toNatClampNeg (0 : Int64)) h
        · replace h := gi_f h c2
          refine k_ldc2 C d_M_newPiece_23 (v := (-1 : Int64)) mw8 rfl ?_
          refine k_goto (tgt := 30) C d_M_newPiece_26 (by decide) ?_
          have g4 := gd1 h
          replace h := gd2 h
          refine k_last (ws' := w_M_newPiece (cI := cI) (cJ := cJ) (cC := cC) (cZ := cZ) (cR := cR) a_m a_typed a_glob a_length a_allows a_permissions a_many a_sort a_piece a_onward a_open a_seen a_stack a_bytes a_star a_behind a_ends a_ruleOf a_classOf a_example a_set a_given a_kind a_finer a_leads a_stateOf a_setOf v_size v_rules v_items v_pieces v_first v_emptyOf v_classes v_sets v_states v_walker (vp_updL v_bytes_2 (((4 : Int32) * v_pieces) + l2_2).toNatClampNeg (-1 : Int64)) v_star) C d_M_newPiece_30 1 1 rfl rfl (inB_in g4) rfl rfl ?_
          refine k_iinc (lv' := [(2, .int (l2_2 + 1)), (0, .ref a_m), (1, .int p1)]) C d_M_newPiece_31 0 rfl rfl (by decide) rfl rfl ?_
          refine k_goto (tgt := 2) C d_M_newPiece_34 (by decide) ?_
          exact ih2 (l2_2 + 1) (vp_updL v_bytes_2 (((4 : Int32) * v_pieces) + l2_2).toNatClampNeg (-1 : Int64)) h
  exact L2 (fun l2_2 v_bytes_2 => (if inB v_pieces 100 = true then some (((v_pieces + (1 : Int32)) - (1 : Int32)), (v_pieces + (1 : Int32)), v_bytes_2, (upd v_star v_pieces.toNatClampNeg (vp_nar .boolean (0 : Int32)))) else none)) X2_0 fu (0 : Int32) v_bytes h
theorem d_M_isElement_0 : decode b_M_isElement 0 = .ok (.iload_n 0, 1) := by decide +kernel
theorem d_M_isElement_1 : decode b_M_isElement 1 = .ok (.ifCond .le 37, 3) := by decide +kernel
theorem d_M_isElement_4 : decode b_M_isElement 4 = .ok (.iload_n 0, 1) := by decide +kernel
theorem d_M_isElement_5 : decode b_M_isElement 5 = .ok (.bipush 91, 2) := by decide +kernel
theorem d_M_isElement_7 : decode b_M_isElement 7 = .ok (.if_icmp .eq 31, 3) := by decide +kernel
theorem d_M_isElement_10 : decode b_M_isElement 10 = .ok (.iload_n 0, 1) := by decide +kernel
theorem d_M_isElement_11 : decode b_M_isElement 11 = .ok (.bipush 93, 2) := by decide +kernel
theorem d_M_isElement_13 : decode b_M_isElement 13 = .ok (.if_icmp .eq 25, 3) := by decide +kernel
theorem d_M_isElement_16 : decode b_M_isElement 16 = .ok (.iload_n 0, 1) := by decide +kernel
theorem d_M_isElement_17 : decode b_M_isElement 17 = .ok (.bipush 94, 2) := by decide +kernel
theorem d_M_isElement_19 : decode b_M_isElement 19 = .ok (.if_icmp .eq 19, 3) := by decide +kernel
theorem d_M_isElement_22 : decode b_M_isElement 22 = .ok (.iload_n 0, 1) := by decide +kernel
theorem d_M_isElement_23 : decode b_M_isElement 23 = .ok (.bipush 45, 2) := by decide +kernel
theorem d_M_isElement_25 : decode b_M_isElement 25 = .ok (.if_icmp .eq 13, 3) := by decide +kernel
theorem d_M_isElement_28 : decode b_M_isElement 28 = .ok (.iload_n 0, 1) := by decide +kernel
theorem d_M_isElement_29 : decode b_M_isElement 29 = .ok (.bipush 92, 2) := by decide +kernel
theorem d_M_isElement_31 : decode b_M_isElement 31 = .ok (.if_icmp .eq 7, 3) := by decide +kernel
theorem d_M_isElement_34 : decode b_M_isElement 34 = .ok (.iconst 1, 1) := by decide +kernel
theorem d_M_isElement_35 : decode b_M_isElement 35 = .ok (.goto 4, 3) := by decide +kernel
theorem d_M_isElement_38 : decode b_M_isElement 38 = .ok (.iconst 0, 1) := by decide +kernel
theorem d_M_isElement_39 : decode b_M_isElement 39 = .ok (.ireturn, 1) := by decide +kernel
abbrev w_M_isElement : va_W := []
def f_M_isElement (p0 : Int32) : Option (Int32) := (if p0 ≤ 0 then (if ((0 : Int32) = 0 ∨ (0 : Int32) = 1) then some (0 : Int32) else none) else (if p0 = (91 : Int32) then (if ((0 : Int32) = 0 ∨ (0 : Int32) = 1) then some (0 : Int32) else none) else (if p0 = (93 : Int32) then (if ((0 : Int32) = 0 ∨ (0 : Int32) = 1) then some (0 : Int32) else none) else (if p0 = (94 : Int32) then (if ((0 : Int32) = 0 ∨ (0 : Int32) = 1) then some (0 : Int32) else none) else (if p0 = (45 : Int32) then (if ((0 : Int32) = 0 ∨ (0 : Int32) = 1) then some (0 : Int32) else none) else (if p0 = (92 : Int32) then (if ((0 : Int32) = 0 ∨ (0 : Int32) = 1) then some (0 : Int32) else none) else (if ((1 : Int32) = 0 ∨ (1 : Int32) = 1) then some (1 : Int32) else none)))))))
set_option maxRecDepth 100000 in
set_option maxHeartbeats 4000000 in
theorem c_M_isElement {l : Launch} {D : va_G} {cI cJ cC cZ cR : ClassId} (fu : Nat)     (p0 : Int32) (o_r : Int32) (h : f_M_isElement p0 = some o_r) : GM l D (tysL cI cJ cC cZ cR) y_M_isElement b_M_isElement 1 (some (.boolean)) { frames := 0, cells := 0, slots := 0, locals := 0 } [.int p0] (w_M_isElement) (fun (o : Option Value) (w : va_W) => o = some (.int o_r) ∧ w = w_M_isElement) := by
  refine GM.of (by decide) (Nat.le_of_ble_eq_true rfl) (lv := [(0, .int p0)]) rfl ?_
  intro X hX C
  subst hX
  refine k_iload_n C d_M_isElement_0 rfl 0 rfl rfl ?_
  refine k_if_le (tgt := 38) C d_M_isElement_1 (by decide) rfl (fun c1 => ?_) (fun c1 => ?_)
  · replace h := gi_t h c1
    refine k_iconst C d_M_isElement_38 (v := (0 : Int32)) (by decide) rfl ?_
    have g2 := gd1 h
    replace h := gd2 h
    exact k_zret C d_M_isElement_39 (nz_bool g2) (tr1 h (fun t => (fun (o : Option Value) (w : va_W) => o = some (.int (t)) ∧ w = w_M_isElement) (some (Value.int (0 : Int32))) (w_M_isElement)) ⟨rfl, rfl⟩)
  · replace h := gi_f h c1
    refine k_iload_n C d_M_isElement_4 rfl 0 rfl rfl ?_
    refine k_bipush C d_M_isElement_5 (v := (91 : Int32)) (by decide) rfl ?_
    refine k_icmp_eq (tgt := 38) C d_M_isElement_7 (by decide) rfl (fun c3 => ?_) (fun c3 => ?_)
    · replace h := gi_t h c3
      refine k_iconst C d_M_isElement_38 (v := (0 : Int32)) (by decide) rfl ?_
      have g4 := gd1 h
      replace h := gd2 h
      exact k_zret C d_M_isElement_39 (nz_bool g4) (tr1 h (fun t => (fun (o : Option Value) (w : va_W) => o = some (.int (t)) ∧ w = w_M_isElement) (some (Value.int (0 : Int32))) (w_M_isElement)) ⟨rfl, rfl⟩)
    · replace h := gi_f h c3
      refine k_iload_n C d_M_isElement_10 rfl 0 rfl rfl ?_
      refine k_bipush C d_M_isElement_11 (v := (93 : Int32)) (by decide) rfl ?_
      refine k_icmp_eq (tgt := 38) C d_M_isElement_13 (by decide) rfl (fun c5 => ?_) (fun c5 => ?_)
      · replace h := gi_t h c5
        refine k_iconst C d_M_isElement_38 (v := (0 : Int32)) (by decide) rfl ?_
        have g6 := gd1 h
        replace h := gd2 h
        exact k_zret C d_M_isElement_39 (nz_bool g6) (tr1 h (fun t => (fun (o : Option Value) (w : va_W) => o = some (.int (t)) ∧ w = w_M_isElement) (some (Value.int (0 : Int32))) (w_M_isElement)) ⟨rfl, rfl⟩)
      · replace h := gi_f h c5
        refine k_iload_n C d_M_isElement_16 rfl 0 rfl rfl ?_
        refine k_bipush C d_M_isElement_17 (v := (94 : Int32)) (by decide) rfl ?_
        refine k_icmp_eq (tgt := 38) C d_M_isElement_19 (by decide) rfl (fun c7 => ?_) (fun c7 => ?_)
        · replace h := gi_t h c7
          refine k_iconst C d_M_isElement_38 (v := (0 : Int32)) (by decide) rfl ?_
          have g8 := gd1 h
          replace h := gd2 h
          exact k_zret C d_M_isElement_39 (nz_bool g8) (tr1 h (fun t => (fun (o : Option Value) (w : va_W) => o = some (.int (t)) ∧ w = w_M_isElement) (some (Value.int (0 : Int32))) (w_M_isElement)) ⟨rfl, rfl⟩)
        · replace h := gi_f h c7
          refine k_iload_n C d_M_isElement_22 rfl 0 rfl rfl ?_
          refine k_bipush C d_M_isElement_23 (v := (45 : Int32)) (by decide) rfl ?_
          refine k_icmp_eq (tgt := 38) C d_M_isElement_25 (by decide) rfl (fun c9 => ?_) (fun c9 => ?_)
          · replace h := gi_t h c9
            refine k_iconst C d_M_isElement_38 (v := (0 : Int32)) (by decide) rfl ?_
            have g10 := gd1 h
            replace h := gd2 h
            exact k_zret C d_M_isElement_39 (nz_bool g10) (tr1 h (fun t => (fun (o : Option Value) (w : va_W) => o = some (.int (t)) ∧ w = w_M_isElement) (some (Value.int (0 : Int32))) (w_M_isElement)) ⟨rfl, rfl⟩)
          · replace h := gi_f h c9
            refine k_iload_n C d_M_isElement_28 rfl 0 rfl rfl ?_
            refine k_bipush C d_M_isElement_29 (v := (92 : Int32)) (by decide) rfl ?_
            refine k_icmp_eq (tgt := 38) C d_M_isElement_31 (by decide) rfl (fun c11 => ?_) (fun c11 => ?_)
            · replace h := gi_t h c11
              refine k_iconst C d_M_isElement_38 (v := (0 : Int32)) (by decide) rfl ?_
              have g12 := gd1 h
              replace h := gd2 h
              exact k_zret C d_M_isElement_39 (nz_bool g12) (tr1 h (fun t => (fun (o : Option Value) (w : va_W) => o = some (.int (t)) ∧ w = w_M_isElement) (some (Value.int (0 : Int32))) (w_M_isElement)) ⟨rfl, rfl⟩)
            · replace h := gi_f h c11
              refine k_iconst C d_M_isElement_34 (v := (1 : Int32)) (by decide) rfl ?_
              refine k_goto (tgt := 39) C d_M_isElement_35 (by decide) ?_
              have g13 := gd1 h
              replace h := gd2 h
              exact k_zret C d_M_isElement_39 (nz_bool g13) (tr1 h (fun t => (fun (o : Option Value) (w : va_W) => o = some (.int (t)) ∧ w = w_M_isElement) (some (Value.int (1 : Int32))) (w_M_isElement)) ⟨rfl, rfl⟩)
theorem d_M_charAt_0 : decode b_M_charAt 0 = .ok (.iload_n 3, 1) := by decide +kernel
theorem d_M_charAt_1 : decode b_M_charAt 1 = .ok (.iload_n 2, 1) := by decide +kernel
theorem d_M_charAt_2 : decode b_M_charAt 2 = .ok (.if_icmp .ge 11, 3) := by decide +kernel
theorem d_M_charAt_5 : decode b_M_charAt 5 = .ok (.aload_n 0, 1) := by decide +kernel
theorem d_M_charAt_6 : decode b_M_charAt 6 = .ok (.iload_n 1, 1) := by decide +kernel
theorem d_M_charAt_7 : decode b_M_charAt 7 = .ok (.iload_n 3, 1) := by decide +kernel
theorem d_M_charAt_8 : decode b_M_charAt 8 = .ok (.iadd, 1) := by decide +kernel
theorem d_M_charAt_9 : decode b_M_charAt 9 = .ok (.iaload, 1) := by decide +kernel
theorem d_M_charAt_10 : decode b_M_charAt 10 = .ok (.goto 4, 3) := by decide +kernel
theorem d_M_charAt_13 : decode b_M_charAt 13 = .ok (.iconst (-1), 1) := by decide +kernel
theorem d_M_charAt_14 : decode b_M_charAt 14 = .ok (.ireturn, 1) := by decide +kernel
abbrev w_M_charAt {cI cJ cC cZ cR : ClassId} (a_text : Nat) (tl : Nat) (v_text : Nat → Int32) : va_W := [(a_text, .inl (cI, tl, .inl v_text))]
def f_M_charAt (tl : Nat) (p1 : Int32) (p2 : Int32) (p3 : Int32) (v_text : Nat → Int32) : Option (Int32) := (if p2 ≤ p3 then some (-1 : Int32) else (if inB (p1 + p3) tl = true then some (v_text (p1 + p3).toNatClampNeg) else none))
set_option maxRecDepth 100000 in
set_option maxHeartbeats 4000000 in
theorem c_M_charAt {l : Launch} {D : va_G} {cI cJ cC cZ cR : ClassId} (fu : Nat) (a_text : Nat)  (tl : Nat) (v_text : Nat → Int32) (p1 : Int32) (p2 : Int32) (p3 : Int32) (o_r : Int32) (h : f_M_charAt tl p1 p2 p3 v_text = some o_r) : GM l D (tysL cI cJ cC cZ cR) y_M_charAt b_M_charAt 4 (some (.int)) { frames := 0, cells := 0, slots := 0, locals := 0 } [.ref a_text, .int p1, .int p2, .int p3] (w_M_charAt (cI := cI) (cJ := cJ) (cC := cC) (cZ := cZ) (cR := cR) a_text tl v_text) (fun (o : Option Value) (w : va_W) => o = some (.int o_r) ∧ w = w_M_charAt (cI := cI) (cJ := cJ) (cC := cC) (cZ := cZ) (cR := cR) a_text tl v_text) := by
  refine GM.of (by decide) (Nat.le_of_ble_eq_true rfl) (lv := [(0, .ref a_text), (1, .int p1), (2, .int p2), (3, .int p3)]) rfl ?_
  intro X hX C
  subst hX
  refine k_iload_n C d_M_charAt_0 rfl 3 rfl rfl ?_
  refine k_iload_n C d_M_charAt_1 rfl 2 rfl rfl ?_
  refine k_icmp_ge (tgt := 13) C d_M_charAt_2 (by decide) rfl (fun c1 => ?_) (fun c1 => ?_)
  · replace h := gi_t h c1
    refine k_iconst C d_M_charAt_13 (v := (-1 : Int32)) (by decide) rfl ?_
    exact k_iret C d_M_charAt_14 (tr1 h (fun t => (fun (o : Option Value) (w : va_W) => o = some (.int (t)) ∧ w = w_M_charAt (cI := cI) (cJ := cJ) (cC := cC) (cZ := cZ) (cR := cR) a_text tl v_text) (some (Value.int (-1 : Int32))) (w_M_charAt (cI := cI) (cJ := cJ) (cC := cC) (cZ := cZ) (cR := cR) a_text tl v_text)) ⟨rfl, rfl⟩)
  · replace h := gi_f h c1
    refine k_aload_n C d_M_charAt_5 rfl 0 rfl rfl ?_
    refine k_iload_n C d_M_charAt_6 rfl 1 rfl rfl ?_
    refine k_iload_n C d_M_charAt_7 rfl 3 rfl rfl ?_
    refine k_iadd C d_M_charAt_8 rfl ?_
    have g2 := gd1 h
    replace h := gd2 h
    refine k_iald C d_M_charAt_9 0 0 rfl rfl (inB_in g2) rfl ?_
    refine k_goto (tgt := 14) C d_M_charAt_10 (by decide) ?_
    exact k_iret C d_M_charAt_14 (tr1 h (fun t => (fun (o : Option Value) (w : va_W) => o = some (.int (t)) ∧ w = w_M_charAt (cI := cI) (cJ := cJ) (cC := cC) (cZ := cZ) (cR := cR) a_text tl v_text) (some (Value.int (v_text (p1 + p3).toNatClampNeg))) (w_M_charAt (cI := cI) (cJ := cJ) (cC := cC) (cZ := cZ) (cR := cR) a_text tl v_text)) ⟨rfl, rfl⟩)
