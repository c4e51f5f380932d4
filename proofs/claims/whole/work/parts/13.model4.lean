theorem d_M_rule_0 : decode b_M_rule 0 = .ok (.aload_n 0, 1) := by decide +kernel
theorem d_M_rule_1 : decode b_M_rule 1 = .ok (.getfield 103, 3) := by decide +kernel
theorem d_M_rule_4 : decode b_M_rule 4 = .ok (.istore_n 3, 1) := by decide +kernel
theorem d_M_rule_5 : decode b_M_rule 5 = .ok (.aload_n 0, 1) := by decide +kernel
theorem d_M_rule_6 : decode b_M_rule 6 = .ok (.aload_n 0, 1) := by decide +kernel
theorem d_M_rule_7 : decode b_M_rule 7 = .ok (.getfield 7, 3) := by decide +kernel
theorem d_M_rule_10 : decode b_M_rule 10 = .ok (.iconst 0, 1) := by decide +kernel
theorem d_M_rule_11 : decode b_M_rule 11 = .ok (.aload_n 0, 1) := by decide +kernel
theorem d_M_rule_12 : decode b_M_rule 12 = .ok (.getfield 94, 3) := by decide +kernel
theorem d_M_rule_15 : decode b_M_rule 15 = .ok (.invokevirtual 136, 3) := by decide +kernel
theorem d_M_rule_18 : decode b_M_rule 18 = .ok (.istore 4, 2) := by decide +kernel
theorem d_M_rule_20 : decode b_M_rule 20 = .ok (.aload_n 0, 1) := by decide +kernel
theorem d_M_rule_21 : decode b_M_rule 21 = .ok (.getfield 103, 3) := by decide +kernel
theorem d_M_rule_24 : decode b_M_rule 24 = .ok (.iload_n 3, 1) := by decide +kernel
theorem d_M_rule_25 : decode b_M_rule 25 = .ok (.isub, 1) := by decide +kernel
theorem d_M_rule_26 : decode b_M_rule 26 = .ok (.istore 5, 2) := by decide +kernel
theorem d_M_rule_28 : decode b_M_rule 28 = .ok (.aload_n 0, 1) := by decide +kernel
theorem d_M_rule_29 : decode b_M_rule 29 = .ok (.iload_n 3, 1) := by decide +kernel
theorem d_M_rule_30 : decode b_M_rule 30 = .ok (.putfield 103, 3) := by decide +kernel
theorem d_M_rule_33 : decode b_M_rule 33 = .ok (.aload_n 0, 1) := by decide +kernel
theorem d_M_rule_34 : decode b_M_rule 34 = .ok (.getfield 94, 3) := by decide +kernel
theorem d_M_rule_37 : decode b_M_rule 37 = .ok (.istore 6, 2) := by decide +kernel
theorem d_M_rule_39 : decode b_M_rule 39 = .ok (.aload_n 0, 1) := by decide +kernel
theorem d_M_rule_40 : decode b_M_rule 40 = .ok (.iconst 0, 1) := by decide +kernel
theorem d_M_rule_41 : decode b_M_rule 41 = .ok (.putfield 94, 3) := by decide +kernel
theorem d_M_rule_44 : decode b_M_rule 44 = .ok (.iload 4, 2) := by decide +kernel
theorem d_M_rule_46 : decode b_M_rule 46 = .ok (.ifCond .ge 6, 3) := by decide +kernel
theorem d_M_rule_49 : decode b_M_rule 49 = .ok (.iload 4, 2) := by decide +kernel
theorem d_M_rule_51 : decode b_M_rule 51 = .ok (.ireturn, 1) := by decide +kernel
theorem d_M_rule_52 : decode b_M_rule 52 = .ok (.iload_n 2, 1) := by decide +kernel
theorem d_M_rule_53 : decode b_M_rule 53 = .ok (.iconst 1, 1) := by decide +kernel
theorem d_M_rule_54 : decode b_M_rule 54 = .ok (.bipush 7, 2) := by decide +kernel
theorem d_M_rule_56 : decode b_M_rule 56 = .ok (.invokestatic 90, 3) := by decide +kernel
theorem d_M_rule_59 : decode b_M_rule 59 = .ok (.ifCond .eq 24, 3) := by decide +kernel
theorem d_M_rule_62 : decode b_M_rule 62 = .ok (.aload_n 0, 1) := by decide +kernel
theorem d_M_rule_63 : decode b_M_rule 63 = .ok (.getfield 155, 3) := by decide +kernel
theorem d_M_rule_66 : decode b_M_rule 66 = .ok (.bipush 6, 2) := by decide +kernel
theorem d_M_rule_68 : decode b_M_rule 68 = .ok (.if_icmp .ge 15, 3) := by decide +kernel
theorem d_M_rule_71 : decode b_M_rule 71 = .ok (.aload_n 0, 1) := by decide +kernel
theorem d_M_rule_72 : decode b_M_rule 72 = .ok (.invokevirtual 158, 3) := by decide +kernel
theorem d_M_rule_75 : decode b_M_rule 75 = .ok (.iload 5, 2) := by decide +kernel
theorem d_M_rule_77 : decode b_M_rule 77 = .ok (.iadd, 1) := by decide +kernel
theorem d_M_rule_78 : decode b_M_rule 78 = .ok (.bipush 60, 2) := by decide +kernel
theorem d_M_rule_80 : decode b_M_rule 80 = .ok (.if_icmp .le 7, 3) := by decide +kernel
theorem d_M_rule_83 : decode b_M_rule 83 = .ok (.sipush (-1000), 3) := by decide +kernel
theorem d_M_rule_86 : decode b_M_rule 86 = .ok (.ireturn, 1) := by decide +kernel
theorem d_M_rule_87 : decode b_M_rule 87 = .ok (.iconst 0, 1) := by decide +kernel
theorem d_M_rule_88 : decode b_M_rule 88 = .ok (.istore 7, 2) := by decide +kernel
theorem d_M_rule_90 : decode b_M_rule 90 = .ok (.iload 7, 2) := by decide +kernel
theorem d_M_rule_92 : decode b_M_rule 92 = .ok (.iload 6, 2) := by decide +kernel
theorem d_M_rule_94 : decode b_M_rule 94 = .ok (.if_icmp .ge 31, 3) := by decide +kernel
theorem d_M_rule_97 : decode b_M_rule 97 = .ok (.aload_n 0, 1) := by decide +kernel
theorem d_M_rule_98 : decode b_M_rule 98 = .ok (.getfield 13, 3) := by decide +kernel
theorem d_M_rule_101 : decode b_M_rule 101 = .ok (.bipush 40, 2) := by decide +kernel
theorem d_M_rule_103 : decode b_M_rule 103 = .ok (.aload_n 0, 1) := by decide +kernel
theorem d_M_rule_104 : decode b_M_rule 104 = .ok (.getfield 155, 3) := by decide +kernel
theorem d_M_rule_107 : decode b_M_rule 107 = .ok (.imul, 1) := by decide +kernel
theorem d_M_rule_108 : decode b_M_rule 108 = .ok (.iload 7, 2) := by decide +kernel
theorem d_M_rule_110 : decode b_M_rule 110 = .ok (.iadd, 1) := by decide +kernel
theorem d_M_rule_111 : decode b_M_rule 111 = .ok (.aload_n 0, 1) := by decide +kernel
theorem d_M_rule_112 : decode b_M_rule 112 = .ok (.getfield 7, 3) := by decide +kernel
theorem d_M_rule_115 : decode b_M_rule 115 = .ok (.iload 7, 2) := by decide +kernel
theorem d_M_rule_117 : decode b_M_rule 117 = .ok (.iaload, 1) := by decide +kernel
theorem d_M_rule_118 : decode b_M_rule 118 = .ok (.iastore, 1) := by decide +kernel
theorem d_M_rule_119 : decode b_M_rule 119 = .ok (.iinc 7 1, 3) := by decide +kernel
theorem d_M_rule_122 : decode b_M_rule 122 = .ok (.goto (-32), 3) := by decide +kernel
theorem d_M_rule_125 : decode b_M_rule 125 = .ok (.aload_n 0, 1) := by decide +kernel
theorem d_M_rule_126 : decode b_M_rule 126 = .ok (.getfield 16, 3) := by decide +kernel
theorem d_M_rule_129 : decode b_M_rule 129 = .ok (.aload_n 0, 1) := by decide +kernel
theorem d_M_rule_130 : decode b_M_rule 130 = .ok (.getfield 155, 3) := by decide +kernel
theorem d_M_rule_133 : decode b_M_rule 133 = .ok (.iload 6, 2) := by decide +kernel
theorem d_M_rule_135 : decode b_M_rule 135 = .ok (.iastore, 1) := by decide +kernel
theorem d_M_rule_136 : decode b_M_rule 136 = .ok (.aload_n 0, 1) := by decide +kernel
theorem d_M_rule_137 : decode b_M_rule 137 = .ok (.getfield 19, 3) := by decide +kernel
theorem d_M_rule_140 : decode b_M_rule 140 = .ok (.aload_n 0, 1) := by decide +kernel
theorem d_M_rule_141 : decode b_M_rule 141 = .ok (.getfield 155, 3) := by decide +kernel
theorem d_M_rule_144 : decode b_M_rule 144 = .ok (.iload_n 1, 1) := by decide +kernel
theorem d_M_rule_145 : decode b_M_rule 145 = .ok (.bastore, 1) := by decide +kernel
theorem d_M_rule_146 : decode b_M_rule 146 = .ok (.aload_n 0, 1) := by decide +kernel
theorem d_M_rule_147 : decode b_M_rule 147 = .ok (.getfield 23, 3) := by decide +kernel
theorem d_M_rule_150 : decode b_M_rule 150 = .ok (.aload_n 0, 1) := by decide +kernel
theorem d_M_rule_151 : decode b_M_rule 151 = .ok (.getfield 155, 3) := by decide +kernel
theorem d_M_rule_154 : decode b_M_rule 154 = .ok (.iload_n 2, 1) := by decide +kernel
theorem d_M_rule_155 : decode b_M_rule 155 = .ok (.iastore, 1) := by decide +kernel
theorem d_M_rule_156 : decode b_M_rule 156 = .ok (.aload_n 0, 1) := by decide +kernel
theorem d_M_rule_157 : decode b_M_rule 157 = .ok (.getfield 26, 3) := by decide +kernel
theorem d_M_rule_160 : decode b_M_rule 160 = .ok (.aload_n 0, 1) := by decide +kernel
theorem d_M_rule_161 : decode b_M_rule 161 = .ok (.getfield 155, 3) := by decide +kernel
theorem d_M_rule_164 : decode b_M_rule 164 = .ok (.iload 5, 2) := by decide +kernel
theorem d_M_rule_166 : decode b_M_rule 166 = .ok (.iastore, 1) := by decide +kernel
theorem d_M_rule_167 : decode b_M_rule 167 = .ok (.aload_n 0, 1) := by decide +kernel
theorem d_M_rule_168 : decode b_M_rule 168 = .ok (.aload_n 0, 1) := by decide +kernel
theorem d_M_rule_169 : decode b_M_rule 169 = .ok (.getfield 155, 3) := by decide +kernel
theorem d_M_rule_172 : decode b_M_rule 172 = .ok (.iconst 1, 1) := by decide +kernel
theorem d_M_rule_173 : decode b_M_rule 173 = .ok (.iadd, 1) := by decide +kernel
theorem d_M_rule_174 : decode b_M_rule 174 = .ok (.putfield 155, 3) := by decide +kernel
theorem d_M_rule_177 : decode b_M_rule 177 = .ok (.aload_n 0, 1) := by decide +kernel
theorem d_M_rule_178 : decode b_M_rule 178 = .ok (.iconst 0, 1) := by decide +kernel
theorem d_M_rule_179 : decode b_M_rule 179 = .ok (.putfield 162, 3) := by decide +kernel
theorem d_M_rule_182 : decode b_M_rule 182 = .ok (.aload_n 0, 1) := by decide +kernel
theorem d_M_rule_183 : decode b_M_rule 183 = .ok (.getfield 155, 3) := by decide +kernel
theorem d_M_rule_186 : decode b_M_rule 186 = .ok (.iconst 1, 1) := by decide +kernel
theorem d_M_rule_187 : decode b_M_rule 187 = .ok (.isub, 1) := by decide +kernel
theorem d_M_rule_188 : decode b_M_rule 188 = .ok (.ireturn, 1) := by decide +kernel
abbrev w_M_rule {cI cJ cC cZ cR : ClassId} (a_m a_typed a_glob a_length a_allows a_permissions a_many a_sort a_piece a_onward a_open a_seen a_stack a_bytes a_star a_behind a_ends a_ruleOf a_classOf a_example a_set a_given a_kind a_finer a_leads a_stateOf a_setOf : Nat) (v_size : Int32) (v_rules : Int32) (v_items : Int32) (v_pieces : Int32) (v_first : Int64) (v_emptyOf : Int32) (v_classes : Int32) (v_sets : Int32) (v_states : Int32) (v_walker : Int32) (v_typed : Nat → Int32) (v_glob : Nat → Int32) (v_length : Nat → Int32) (v_allows : Nat → Int32) (v_permissions : Nat → Int32) (v_many : Nat → Int32) (v_sort : Nat → Int32) (v_piece : Nat → Int32) (v_onward : Nat → Int32) (v_open : Nat → Int32) (v_bytes : Nat → Int64) (v_star : Nat → Int32) : va_W := [(a_m, .inr (8, [.ref a_typed, .int v_size, .int v_rules, .ref a_glob, .ref a_length, .ref a_allows, .ref a_permissions, .ref a_many, .int v_items, .ref a_sort, .ref a_piece, .ref a_onward, .ref a_open, .ref a_seen, .ref a_stack, .int v_pieces, .ref a_bytes, .ref a_star, .ref a_behind, .ref a_ends, .ref a_ruleOf, .long v_first, .int v_emptyOf, .int v_classes, .ref a_classOf, .ref a_example, .int v_sets, .ref a_set, .ref a_given, .ref a_kind, .ref a_finer, .ref a_leads, .int v_states, .ref a_stateOf, .ref a_setOf, .int v_walker])), (a_typed, .inl (cI, 40, .inl v_typed)), (a_glob, .inl (cI, 240, .inl v_glob)), (a_length, .inl (cI, 6, .inl v_length)), (a_allows, .inl (cZ, 6, .inl v_allows)), (a_permissions, .inl (cI, 6, .inl v_permissions)), (a_many, .inl (cI, 6, .inl v_many)), (a_sort, .inl (cI, 42, .inl v_sort)), (a_piece, .inl (cI, 42, .inl v_piece)), (a_onward, .inl (cI, 42, .inl v_onward)), (a_open, .inl (cI, 4, .inl v_open)), (a_bytes, .inl (cJ, 400, .inr (.inl v_bytes))), (a_star, .inl (cZ, 100, .inl v_star))]
def f_M_rule_L90 (v_size : Int32) (v_rules : Int32) (v_typed : Nat → Int32) (kk90_0 : Int32 → (Nat → Int32) → Option (Int32 × Int32 × Int32 × Int32 × Int32 × Int32 × (Nat → Int32) × (Nat → Int32) × (Nat → Int32) × (Nat → Int32) × (Nat → Int32) × (Nat → Int32) × (Nat → Int32) × (Nat → Int32) × (Nat → Int32) × (Nat → Int64) × (Nat → Int32))) : Nat → Int32 → (Nat → Int32) → Option (Int32 × Int32 × Int32 × Int32 × Int32 × Int32 × (Nat → Int32) × (Nat → Int32) × (Nat → Int32) × (Nat → Int32) × (Nat → Int32) × (Nat → Int32) × (Nat → Int32) × (Nat → Int32) × (Nat → Int32) × (Nat → Int64) × (Nat → Int32))
  | 0, _, _ => none
  | n_90 + 1, l7_90, v_glob_90 => (if v_size ≤ l7_90 then (kk90_0 l7_90 v_glob_90) else (if inB l7_90 40 = true then (if inB (((40 : Int32) * v_rules) + l7_90) 240 = true then (f_M_rule_L90 v_size v_rules v_typed kk90_0 n_90 (l7_90 + 1) (upd v_glob_90 (((40 : Int32) * v_rules) + l7_90).toNatClampNeg (v_typed l7_90.toNatClampNeg))) else none) else none))
theorem f_M_rule_L90_s (v_size : Int32) (v_rules : Int32) (v_typed : Nat → Int32) (kk90_0 : Int32 → (Nat → Int32) → Option (Int32 × Int32 × Int32 × Int32 × Int32 × Int32 × (Nat → Int32) × (Nat → Int32) × (Nat → Int32) × (Nat → Int32) × (Nat → Int32) × (Nat → Int32) × (Nat → Int32) × (Nat → Int32) × (Nat → Int32) × (Nat → Int64) × (Nat → Int32))) (n_90 : Nat) (l7_90 : Int32) (v_glob_90 : Nat → Int32) : f_M_rule_L90 v_size v_rules v_typed kk90_0 (n_90 + 1) l7_90 v_glob_90 = (if v_size ≤ l7_90 then (kk90_0 l7_90 v_glob_90) else (if inB l7_90 40 = true then (if inB (((40 : Int32) * v_rules) + l7_90) 240 = true then (f_M_rule_L90 v_size v_rules v_typed kk90_0 n_90 (l7_90 + 1) (upd v_glob_90 (((40 : Int32) * v_rules) + l7_90).toNatClampNeg (v_typed l7_90.toNatClampNeg))) else none) else none)) := rfl
def f_M_rule (fu : Nat) (p1 : Int32) (p2 : Int32) (v_size : Int32) (v_rules : Int32) (v_pieces : Int32) (v_states : Int32) (v_typed : Nat → Int32) (v_glob : Nat → Int32) (v_length : Nat → Int32) (v_allows : Nat → Int32) (v_permissions : Nat → Int32) (v_many : Nat → Int32) (v_sort : Nat → Int32) (v_piece : Nat → Int32) (v_onward : Nat → Int32) (v_open : Nat → Int32) (v_bytes : Nat → Int64) (v_star : Nat → Int32) : Option (Int32 × Int32 × Int32 × Int32 × Int32 × Int32 × (Nat → Int32) × (Nat → Int32) × (Nat → Int32) × (Nat → Int32) × (Nat → Int32) × (Nat → Int32) × (Nat → Int32) × (Nat → Int32) × (Nat → Int32) × (Nat → Int64) × (Nat → Int32)) := (Option.bind (f_M_read fu 40 (0 : Int32) v_size v_pieces v_sort v_piece v_onward v_open v_bytes v_star v_typed) fun (r1, yv_items_2, yv_pieces_3, yv_sort_4, yv_piece_5, yv_onward_6, yv_open_7, yv_bytes_8, yv_star_9) => (if 0 ≤ r1 then (Option.bind (f_M_in p2 (1 : Int32) (7 : Int32)) fun r12 => (if r12 = 0 then some ((-1000 : Int32), (0 : Int32), v_rules, yv_items_2, v_pieces, v_states, v_glob, v_length, v_allows, v_permissions, v_many, yv_sort_4, yv_piece_5, yv_onward_6, yv_open_7, yv_bytes_8, yv_star_9) else (if (6 : Int32) ≤ v_rules then some ((-1000 : Int32), (0 : Int32), v_rules, yv_items_2, v_pieces, v_states, v_glob, v_length, v_allows, v_permissions, v_many, yv_sort_4, yv_piece_5, yv_onward_6, yv_open_7, yv_bytes_8, yv_star_9) else (Option.bind (f_M_allPieces fu v_rules v_many) fun r16 => (if (r16 + (yv_pieces_3 - v_pieces)) ≤ (60 : Int32) then (f_M_rule_L90 v_size v_rules v_typed (fun l7_90 v_glob_90 => (if inB v_rules 6 = true then (if inB v_rules 6 = true then (if inB v_rules 6 = true then (if inB v_rules 6 = true then some (((v_rules + (1 : Int32)) - (1 : Int32)), (0 : Int32), (v_rules + (1 : Int32)), yv_items_2, v_pieces, (0 : Int32), v_glob_90, (upd v_length v_rules.toNatClampNeg v_size), (upd v_allows v_rules.toNatClampNeg (vp_nar .boolean p1)), (upd v_permissions v_rules.toNatClampNeg p2), (upd v_many v_rules.toNatClampNeg (yv_pieces_3 - v_pieces)), yv_sort_4, yv_piece_5, yv_onward_6, yv_open_7, yv_bytes_8, yv_star_9) else none) else none) else none) else none)) fu (0 : Int32) v_glob) else some ((-1000 : Int32), (0 : Int32), v_rules, yv_items_2, v_pieces, v_states, v_glob, v_length, v_allows, v_permissions, v_many, yv_sort_4, yv_piece_5, yv_onward_6, yv_open_7, yv_bytes_8, yv_star_9)))))) else some (r1, (0 : Int32), v_rules, yv_items_2, v_pieces, v_states, v_glob, v_length, v_allows, v_permissions, v_many, yv_sort_4, yv_piece_5, yv_onward_6, yv_open_7, yv_bytes_8, yv_star_9)))
set_option maxRecDepth 100000 in
set_option maxHeartbeats 4000000 in
theorem c_M_rule {l : Launch} {D : va_G} {cI cJ cC cZ cR : ClassId} (fu : Nat) (a_m a_typed a_glob a_length a_allows a_permissions a_many a_sort a_piece a_onward a_open a_seen a_stack a_bytes a_star a_behind a_ends a_ruleOf a_classOf a_example a_set a_given a_kind a_finer a_leads a_stateOf a_setOf : Nat)   (v_size : Int32) (v_rules : Int32) (v_items : Int32) (v_pieces : Int32) (v_first : Int64) (v_emptyOf : Int32) (v_classes : Int32) (v_sets : Int32) (v_states : Int32) (v_walker : Int32) (v_typed : Nat → Int32) (v_glob : Nat → Int32) (v_length : Nat → Int32) (v_allows : Nat → Int32) (v_permissions : Nat → Int32) (v_many : Nat → Int32) (v_sort : Nat → Int32) (v_piece : Nat → Int32) (v_onward : Nat → Int32) (v_open : Nat → Int32) (v_bytes : Nat → Int64) (v_star : Nat → Int32) (p1 : Int32) (p2 : Int32) (o_r : Int32) (o_v_size : Int32) (o_v_rules : Int32) (o_v_items : Int32) (o_v_pieces : Int32) (o_v_states : Int32) (o_v_glob : Nat → Int32) (o_v_length : Nat → Int32) (o_v_allows : Nat → Int32) (o_v_permissions : Nat → Int32) (o_v_many : Nat → Int32) (o_v_sort : Nat → Int32) (o_v_piece : Nat → Int32) (o_v_onward : Nat → Int32) (o_v_open : Nat → Int32) (o_v_bytes : Nat → Int64) (o_v_star : Nat → Int32) (h : f_M_rule fu p1 p2 v_size v_rules v_pieces v_states v_typed v_glob v_length v_allows v_permissions v_many v_sort v_piece v_onward v_open v_bytes v_star = some (o_r, o_v_size, o_v_rules, o_v_items, o_v_pieces, o_v_states, o_v_glob, o_v_length, o_v_allows, o_v_permissions, o_v_many, o_v_sort, o_v_piece, o_v_onward, o_v_open, o_v_bytes, o_v_star)) : GM l D (tysL cI cJ cC cZ cR) y_M_rule b_M_rule 8 (some (.int)) { frames := 4, cells := 0, slots := 0, locals := 110 } [.ref a_m, .int p1, .int p2] (w_M_rule (cI := cI) (cJ := cJ) (cC := cC) (cZ := cZ) (cR := cR) a_m a_typed a_glob a_length a_allows a_permissions a_many a_sort a_piece a_onward a_open a_seen a_stack a_bytes a_star a_behind a_ends a_ruleOf a_classOf a_example a_set a_given a_kind a_finer a_leads a_stateOf a_setOf v_size v_rules v_items v_pieces v_first v_emptyOf v_classes v_sets v_states v_walker v_typed v_glob v_length v_allows v_permissions v_many v_sort v_piece v_onward v_open v_bytes v_star) (fun (o : Option Value) (w : va_W) => o = some (.int o_r) ∧ w = w_M_rule (cI := cI) (cJ := cJ) (cC := cC) (cZ := cZ) (cR := cR) a_m a_typed a_glob a_length a_allows a_permissions a_many a_sort a_piece a_onward a_open a_seen a_stack a_bytes a_star a_behind a_ends a_ruleOf a_classOf a_example a_set a_given a_kind a_finer a_leads a_stateOf a_setOf o_v_size o_v_rules o_v_items o_v_pieces v_first v_emptyOf v_classes v_sets o_v_states v_walker v_typed o_v_glob o_v_length o_v_allows o_v_permissions o_v_many o_v_sort o_v_piece o_v_onward o_v_open o_v_bytes o_v_star) := by
  refine GM.of (by decide) (Nat.le_of_ble_eq_true rfl) (lv := [(0, .ref a_m), (1, .int p1), (2, .int p2)]) rfl ?_
  intro X hX C
  subst hX
  refine k_aload_n C d_M_rule_0 rfl 0 rfl rfl ?_
  refine k_getf C d_M_rule_1 hin_M rfl 15 (by decide) mw10 0 rfl rfl rfl ?_
  refine k_istore_n (lv' := [(3, .int v_pieces), (0, .ref a_m), (1, .int p1), (2, .int p2)]) C d_M_rule_4 rfl (by decide) rfl rfl ?_
  refine k_aload_n C d_M_rule_5 rfl 1 rfl rfl ?_
  refine k_aload_n C d_M_rule_6 rfl 1 rfl rfl ?_
  refine k_getf C d_M_rule_7 hin_M rfl 0 (by decide) mw0 0 rfl rfl rfl ?_
  refine k_iconst C d_M_rule_10 (v := (0 : Int32)) (by decide) rfl ?_
  refine k_aload_n C d_M_rule_11 rfl 1 rfl rfl ?_
  refine k_getf C d_M_rule_12 hin_M rfl 1 (by decide) mw1 0 rfl rfl rfl ?_
  obtain ⟨⟨r1, yv_items_2, yv_pieces_3, yv_sort_4, yv_piece_5, yv_onward_6, yv_open_7, yv_bytes_8, yv_star_9⟩, hc10, h⟩ := bd h
  refine k_callVd (As := [.ref a_typed, .int (0 : Int32), .int v_size]) (st := []) (st' := [.int r1]) (wn := w_M_rule (cI := cI) (cJ := cJ) (cC := cC) (cZ := cZ) (cR := cR) a_m a_typed a_glob a_length a_allows a_permissions a_many a_sort a_piece a_onward a_open a_seen a_stack a_bytes a_star a_behind a_ends a_ruleOf a_classOf a_example a_set a_given a_kind a_finer a_leads a_stateOf a_setOf v_size v_rules yv_items_2 yv_pieces_3 v_first v_emptyOf v_classes v_sets v_states v_walker v_typed v_glob v_length v_allows v_permissions v_many yv_sort_4 yv_piece_5 yv_onward_6 yv_open_7 yv_bytes_8 yv_star_9) C d_M_rule_15 (c_M_read fu a_m a_typed a_glob a_length a_allows a_permissions a_many a_sort a_piece a_onward a_open a_seen a_stack a_bytes a_star a_behind a_ends a_ruleOf a_classOf a_example a_set a_given a_kind a_finer a_leads a_stateOf a_setOf a_typed 40 v_size v_rules v_items v_pieces v_first v_emptyOf v_classes v_sets v_states v_walker v_sort v_piece v_onward v_open v_bytes v_star v_typed (0 : Int32) v_size r1 yv_items_2 yv_pieces_3 yv_sort_4 yv_piece_5 yv_onward_6 yv_open_7 yv_bytes_8 yv_star_9 hc10) co_M_read cov_M_read mw31 0 rfl rfl (by decide) (by decide) (Nat.le_of_ble_eq_true rfl) rfl [0, 7, 8, 9, 10, 11, 12, 1] [2, 3, 4, 5, 6] [5, 12, 0, 1, 2, 3, 4, 6, 7, 8, 9, 10, 11] rfl (by decide +kernel) rfl (by decide +kernel) (by decide +kernel) rfl (by decide +kernel) rfl rfl ?_
  refine k_istore (lv' := [(4, .int r1), (3, .int v_pieces), (0, .ref a_m), (1, .int p1), (2, .int p2)]) C d_M_rule_18 (by decide) rfl rfl ?_
  refine k_aload_n C d_M_rule_20 rfl 2 rfl rfl ?_
  refine k_getf C d_M_rule_21 hin_M rfl 15 (by decide) mw10 0 rfl rfl rfl ?_
  refine k_iload_n C d_M_rule_24 rfl 1 rfl rfl ?_
  refine k_isub C d_M_rule_25 rfl ?_
  refine k_istore (lv' := [(5, .int (yv_pieces_3 - v_pieces)), (4, .int r1), (3, .int v_pieces), (0, .ref a_m), (1, .int p1), (2, .int p2)]) C d_M_rule_26 (by decide) rfl rfl ?_
  refine k_aload_n C d_M_rule_28 rfl 3 rfl rfl ?_
  refine k_iload_n C d_M_rule_29 rfl 2 rfl rfl ?_
  refine k_putf (ws' := w_M_rule (cI := cI) (cJ := cJ) (cC := cC) (cZ := cZ) (cR := cR) a_m a_typed a_glob a_length a_allows a_permissions a_many a_sort a_piece a_onward a_open a_seen a_stack a_bytes a_star a_behind a_ends a_ruleOf a_classOf a_example a_set a_given a_kind a_finer a_leads a_stateOf a_setOf v_size v_rules yv_items_2 v_pieces v_first v_emptyOf v_classes v_sets v_states v_walker v_typed v_glob v_length v_allows v_permissions v_many yv_sort_4 yv_piece_5 yv_onward_6 yv_open_7 yv_bytes_8 yv_star_9) C d_M_rule_30 hin_M hty_M hnn_M rfl 15 (by decide) mw10 rfl 0 rfl rfl rfl (Nat.le_of_ble_eq_true rfl) rfl rfl ?_
  refine k_aload_n C d_M_rule_33 rfl 3 rfl rfl ?_
  refine k_getf C d_M_rule_34 hin_M rfl 1 (by decide) mw1 0 rfl rfl rfl ?_
  refine k_istore (lv' := [(6, .int v_size), (5, .int (yv_pieces_3 - v_pieces)), (4, .int r1), (3, .int v_pieces), (0, .ref a_m), (1, .int p1), (2, .int p2)]) C d_M_rule_37 (by decide) rfl rfl ?_
  refine k_aload_n C d_M_rule_39 rfl 4 rfl rfl ?_
  refine k_iconst C d_M_rule_40 (v := (0 : Int32)) (by decide) rfl ?_
  refine k_putf (ws' := w_M_rule (cI := cI) (cJ := cJ) (cC := cC) (cZ := cZ) (cR := cR) a_m a_typed a_glob a_length a_allows a_permissions a_many a_sort a_piece a_onward a_open a_seen a_stack a_bytes a_star a_behind a_ends a_ruleOf a_classOf a_example a_set a_given a_kind a_finer a_leads a_stateOf a_setOf (0 : Int32) v_rules yv_items_2 v_pieces v_first v_emptyOf v_classes v_sets v_states v_walker v_typed v_glob v_length v_allows v_permissions v_many yv_sort_4 yv_piece_5 yv_onward_6 yv_open_7 yv_bytes_8 yv_star_9) C d_M_rule_41 hin_M hty_M hnn_M rfl 1 (by decide) mw1 rfl 0 rfl rfl rfl (Nat.le_of_ble_eq_true rfl) rfl rfl ?_
  refine k_iload C d_M_rule_44 2 rfl rfl ?_
  refine k_if_ge (tgt := 52) C d_M_rule_46 (by decide) rfl (fun c11 => ?_) (fun c11 => ?_)
  · replace h := gi_t h c11
    refine k_iload_n C d_M_rule_52 rfl 6 rfl rfl ?_
    refine k_iconst C d_M_rule_53 (v := (1 : Int32)) (by decide) rfl ?_
    refine k_bipush C d_M_rule_54 (v := (7 : Int32)) (by decide) rfl ?_
    obtain ⟨r12, hc13, h⟩ := bd h
    refine k_callSd (As := [.int p2, .int (1 : Int32), .int (7 : Int32)]) (st := []) (st' := [.int r12]) (wn := w_M_rule (cI := cI) (cJ := cJ) (cC := cC) (cZ := cZ) (cR := cR) a_m a_typed a_glob a_length a_allows a_permissions a_many a_sort a_piece a_onward a_open a_seen a_stack a_bytes a_star a_behind a_ends a_ruleOf a_classOf a_example a_set a_given a_kind a_finer a_leads a_stateOf a_setOf (0 : Int32) v_rules yv_items_2 v_pieces v_first v_emptyOf v_classes v_sets v_states v_walker v_typed v_glob v_length v_allows v_permissions v_many yv_sort_4 yv_piece_5 yv_onward_6 yv_open_7 yv_bytes_8 yv_star_9) C d_M_rule_56 (c_M_in fu p2 (1 : Int32) (7 : Int32) r12 hc13) co_M_in cos_M_in mw2 (by decide) (by decide) (Nat.le_of_ble_eq_true rfl) rfl [] [0, 1, 2, 3, 4, 5, 6, 7, 8, 9, 10, 11, 12] [0, 1, 2, 3, 4, 5, 6, 7, 8, 9, 10, 11, 12] rfl (by decide +kernel) rfl (by decide +kernel) (by decide +kernel) rfl (by decide +kernel) rfl rfl ?_
    refine k_if_eq (tgt := 83) C d_M_rule_59 (by decide) rfl (fun c14 => ?_) (fun c14 => ?_)
    · replace h := gi_t h c14
      refine k_sipush C d_M_rule_83 (v := (-1000 : Int32)) (by decide) rfl ?_
      exact k_iret C d_M_rule_86 (tr1 h (fun t => (fun (o : Option Value) (w : va_W) => o = some (.int (t.1)) ∧ w = w_M_rule (cI := cI) (cJ := cJ) (cC := cC) (cZ := cZ) (cR := cR) a_m a_typed a_glob a_length a_allows a_permissions a_many a_sort a_piece a_onward a_open a_seen a_stack a_bytes a_star a_behind a_ends a_ruleOf a_classOf a_example a_set a_given a_kind a_finer a_leads a_stateOf a_setOf (t.2.1) (t.2.2.1) (t.2.2.2.1) (t.2.2.2.2.1) v_first v_emptyOf v_classes v_sets (t.2.2.2.2.2.1) v_walker v_typed (t.2.2.2.2.2.2.1) (t.2.2.2.2.2.2.2.1) (t.2.2.2.2.2.2.2.2.1) (t.2.2.2.2.2.2.2.2.2.1) (t.2.2.2.2.2.2.2.2.2.2.1) (t.2.2.2.2.2.2.2.2.2.2.2.1) (t.2.2.2.2.2.2.2.2.2.2.2.2.1) (t.2.2.2.2.2.2.2.2.2.2.2.2.2.1) (t.2.2.2.2.2.2.2.2.2.2.2.2.2.2.1) (t.2.2.2.2.2.2.2.2.2.2.2.2.2.2.2.1) (t.2.2.2.2.2.2.2.2.2.2.2.2.2.2.2.2)) (some (Value.int (-1000 : Int32))) (w_M_rule (cI := cI) (cJ := cJ) (cC := cC) (cZ := cZ) (cR := cR) a_m a_typed a_glob a_length a_allows a_permissions a_many a_sort a_piece a_onward a_open a_seen a_stack a_bytes a_star a_behind a_ends a_ruleOf a_classOf a_example a_set a_given a_kind a_finer a_leads a_stateOf a_setOf (0 : Int32) v_rules yv_items_2 v_pieces v_first v_emptyOf v_classes v_sets v_states v_walker v_typed v_glob v_length v_allows v_permissions v_many yv_sort_4 yv_piece_5 yv_onward_6 yv_open_7 yv_bytes_8 yv_star_9)) ⟨rfl, rfl⟩)
    · replace h := gi_f h c14
      refine k_aload_n C d_M_rule_62 rfl 4 rfl rfl ?_
      refine k_getf C d_M_rule_63 hin_M rfl 2 (by decide) mw32 0 rfl rfl rfl ?_
      refine k_bipush C d_M_rule_66 (v := (6 : Int32)) (by decide) rfl ?_
      refine k_icmp_ge (tgt := 83) C d_M_rule_68 (by decide) rfl (fun c15 => ?_) (fun c15 => ?_)
      · replace h := gi_t h c15
        refine k_sipush C d_M_rule_83 (v := (-1000 : Int32)) (by decide) rfl ?_
        exact k_iret C d_M_rule_86 (tr1 h (fun t => (fun (o : Option Value) (w : va_W) => o = some (.int (t.1)) ∧ w = w_M_rule (cI := cI) (cJ := cJ) (cC := cC) (cZ := cZ) (cR := cR) a_m a_typed a_glob a_length a_allows a_permissions a_many a_sort a_piece a_onward a_open a_seen a_stack a_bytes a_star a_behind a_ends a_ruleOf a_classOf a_example a_set a_given a_kind a_finer a_leads a_stateOf a_setOf (t.2.1) (t.2.2.1) (t.2.2.2.1) (t.2.2.2.2.1) v_first v_emptyOf v_classes v_sets (t.2.2.2.2.2.1) v_walker v_typed (t.2.2.2.2.2.2.1) (t.2.2.2.2.2.2.2.1) (t.2.2.2.2.2.2.2.2.1) (t.2.2.2.2.2.2.2.2.2.1) (t.2.2.2.2.2.2.2.2.2.2.1) (t.2.2.2.2.2.2.2.2.2.2.2.1) (t.2.2.2.2.2.2.2.2.2.2.2.2.1) (t.2.2.2.2.2.2.2.2.2.2.2.2.2.1) (t.2.2.2.2.2.2.2.2.2.2.2.2.2.2.1) (t.2.2.2.2.2.2.2.2.2.2.2.2.2.2.2.1) (t.2.2.2.2.2.2.2.2.2.2.2.2.2.2.2.2)) (some (Value.int (-1000 : Int32))) (w_M_rule (cI := cI) (cJ := cJ) (cC := cC) (cZ := cZ) (cR := cR) a_m a_typed a_glob a_length a_allows a_permissions a_many a_sort a_piece a_onward a_open a_seen a_stack a_bytes a_star a_behind a_ends a_ruleOf a_classOf a_example a_set a_given a_kind a_finer a_leads a_stateOf a_setOf (0 : Int32) v_rules yv_items_2 v_pieces v_first v_emptyOf v_classes v_sets v_states v_walker v_typed v_glob v_length v_allows v_permissions v_many yv_sort_4 yv_piece_5 yv_onward_6 yv_open_7 yv_bytes_8 yv_star_9)) ⟨rfl, rfl⟩)
      · replace h := gi_f h c15
        refine k_aload_n C d_M_rule_71 rfl 4 rfl rfl ?_
        obtain ⟨r16, hc17, h⟩ := bd h
        refine k_callVd (As := []) (st := []) (st' := [.int r16]) (wn := w_M_rule (cI := cI) (cJ := cJ) (cC := cC) (cZ := cZ) (cR := cR) a_m a_typed a_glob a_length a_allows a_permissions a_many a_sort a_piece a_onward a_open a_seen a_stack a_bytes a_star a_behind a_ends a_ruleOf a_classOf a_example a_set a_given a_kind a_finer a_leads a_stateOf a_setOf (0 : Int32) v_rules yv_items_2 v_pieces v_first v_emptyOf v_classes v_sets v_states v_walker v_typed v_glob v_length v_allows v_permissions v_many yv_sort_4 yv_piece_5 yv_onward_6 yv_open_7 yv_bytes_8 yv_star_9) C d_M_rule_72 (c_M_allPieces fu a_m a_typed a_glob a_length a_allows a_permissions a_many a_sort a_piece a_onward a_open a_seen a_stack a_bytes a_star a_behind a_ends a_ruleOf a_classOf a_example a_set a_given a_kind a_finer a_leads a_stateOf a_setOf (0 : Int32) v_rules yv_items_2 v_pieces v_first v_emptyOf v_classes v_sets v_states v_walker v_many r16 hc17) co_M_allPieces cov_M_allPieces mw37 0 rfl rfl (by decide) (by decide) (Nat.le_of_ble_eq_true rfl) rfl [0, 6] [1, 2, 3, 4, 5, 7, 8, 9, 10, 11, 12] [11, 0, 1, 2, 3, 4, 12, 5, 6, 7, 8, 9, 10] rfl (by decide +kernel) rfl (by decide +kernel) (by decide +kernel) rfl (by decide +kernel) rfl rfl ?_
        refine k_iload C d_M_rule_75 1 rfl rfl ?_
        refine k_iadd C d_M_rule_77 rfl ?_
        refine k_bipush C d_M_rule_78 (v := (60 : Int32)) (by decide) rfl ?_
        refine k_icmp_le (tgt := 87) C d_M_rule_80 (by decide) rfl (fun c18 => ?_) (fun c18 => ?_)
        · replace h := gi_t h c18
          refine k_iconst C d_M_rule_87 (v := (0 : Int32)) (by decide) rfl ?_
          refine k_istore (lv' := [(7, .int (0 : Int32)), (6, .int v_size), (5, .int (yv_pieces_3 - v_pieces)), (4, .int r1), (3, .int v_pieces), (0, .ref a_m), (1, .int p1), (2, .int p2)]) C d_M_rule_88 (by decide) rfl rfl ?_
          have X90_0 : ∀ (l7_90 : Int32) (v_glob_90 : Nat → Int32), (if inB v_rules 6 = true then (if inB v_rules 6 = true then (if inB v_rules 6 = true then (if inB v_rules 6 = true then some (((v_rules + (1 : Int32)) - (1 : Int32)), (0 : Int32), (v_rules + (1 : Int32)), yv_items_2, v_pieces, (0 : Int32), v_glob_90, (upd v_length v_rules.toNatClampNeg v_size), (upd v_allows v_rules.toNatClampNeg (vp_nar .boolean p1)), (upd v_permissions v_rules.toNatClampNeg p2), (upd v_many v_rules.toNatClampNeg (yv_pieces_3 - v_pieces)), yv_sort_4, yv_piece_5, yv_onward_6, yv_open_7, yv_bytes_8, yv_star_9) else none) else none) else none) else none) = some (o_r, o_v_size, o_v_rules, o_v_items, o_v_pieces, o_v_states, o_v_glob, o_v_length, o_v_allows, o_v_permissions, o_v_many, o_v_sort, o_v_piece, o_v_onward, o_v_open, o_v_bytes, o_v_star) → Wk X { frames := 4, cells := 0, slots := 0, locals := 110 } 8 D (va_A (w_M_rule (cI := cI) (cJ := cJ) (cC := cC) (cZ := cZ) (cR := cR) a_m a_typed a_glob a_length a_allows a_permissions a_many a_sort a_piece a_onward a_open a_seen a_stack a_bytes a_star a_behind a_ends a_ruleOf a_classOf a_example a_set a_given a_kind a_finer a_leads a_stateOf a_setOf v_size v_rules v_items v_pieces v_first v_emptyOf v_classes v_sets v_states v_walker v_typed v_glob v_length v_allows v_permissions v_many v_sort v_piece v_onward v_open v_bytes v_star) (xs X).heap.size) 0 0 (GE X D (w_M_rule (cI := cI) (cJ := cJ) (cC := cC) (cZ := cZ) (cR := cR) a_m a_typed a_glob a_length a_allows a_permissions a_many a_sort a_piece a_onward a_open a_seen a_stack a_bytes a_star a_behind a_ends a_ruleOf a_classOf a_example a_set a_given a_kind a_finer a_leads a_stateOf a_setOf v_size v_rules v_items v_pieces v_first v_emptyOf v_classes v_sets v_states v_walker v_typed v_glob v_length v_allows v_permissions v_many v_sort v_piece v_onward v_open v_bytes v_star) (fun (o : Option Value) (w : va_W) => o = some (.int o_r) ∧ w = w_M_rule (cI := cI) (cJ := cJ) (cC := cC) (cZ := cZ) (cR := cR) a_m a_typed a_glob a_length a_allows a_permissions a_many a_sort a_piece a_onward a_open a_seen a_stack a_bytes a_star a_behind a_ends a_ruleOf a_classOf a_example a_set a_given a_kind a_finer a_leads a_stateOf a_setOf o_v_size o_v_rules o_v_items o_v_pieces v_first v_emptyOf v_classes v_sets o_v_states v_walker v_typed o_v_glob o_v_length o_v_allows o_v_permissions o_v_many o_v_sort o_v_piece o_v_onward o_v_open o_v_bytes o_v_star) 0 0) (w_M_rule (cI := cI) (cJ := cJ) (cC := cC) (cZ := cZ) (cR := cR) a_m a_typed a_glob a_length a_allows a_permissions a_many a_sort a_piece a_onward a_open a_seen a_stack a_bytes a_star a_behind a_ends a_ruleOf a_classOf a_example a_set a_given a_kind a_finer a_leads a_stateOf a_setOf (0 : Int32) v_rules yv_items_2 v_pieces v_first v_emptyOf v_classes v_sets v_states v_walker v_typed v_glob_90 v_length v_allows v_permissions v_many yv_sort_4 yv_piece_5 yv_onward_6 yv_open_7 yv_bytes_8 yv_star_9) [(7, .int l7_90), (6, .int v_size), (5, .int (yv_pieces_3 - v_pieces)), (4, .int r1), (3, .int v_pieces), (0, .ref a_m), (1, .int p1), (2, .int p2)] [] 125 := by
            intro l7_90 v_glob_90 h
            refine k_aload_n C d_M_rule_125 rfl 5 rfl rfl ?_
            refine k_getf C d_M_rule_126 hin_M rfl 4 (by decide) mw23 0 rfl rfl rfl ?_
            refine k_aload_n C d_M_rule_129 rfl 5 rfl rfl ?_
            refine k_getf C d_M_rule_130 hin_M rfl 2 (by decide) mw32 0 rfl rfl rfl ?_
            refine k_iload C d_M_rule_133 1 rfl rfl ?_
            have g22 := gd1 h
            replace h := gd2 h
            refine k_iast (ws' := w_M_rule (cI := cI) (cJ := cJ) (cC := cC) (cZ := cZ) (cR := cR) a_m a_typed a_glob a_length a_allows a_permissions a_many a_sort a_piece a_onward a_open a_seen a_stack a_bytes a_star a_behind a_ends a_ruleOf a_classOf a_example a_set a_given a_kind a_finer a_leads a_stateOf a_setOf (0 : Int32) v_rules yv_items_2 v_pieces v_first v_emptyOf v_classes v_sets v_states v_walker v_typed v_glob_90 (upd v_length v_rules.toNatClampNeg v_size) v_allows v_permissions v_many yv_sort_4 yv_piece_5 yv_onward_6 yv_open_7 yv_bytes_8 yv_star_9) C d_M_rule_135 3 0 rfl rfl (inB_in g22) rfl rfl ?_
            refine k_aload_n C d_M_rule_136 rfl 5 rfl rfl ?_
            refine k_getf C d_M_rule_137 hin_M rfl 5 (by decide) mw34 0 rfl rfl rfl ?_
            refine k_aload_n C d_M_rule_140 rfl 5 rfl rfl ?_
            refine k_getf C d_M_rule_141 hin_M rfl 2 (by decide) mw32 0 rfl rfl rfl ?_
            refine k_iload_n C d_M_rule_144 rfl 6 rfl rfl ?_
            have g23 := gd1 h
            replace h := gd2 h
            refine k_zast (ws' := w_M_rule (cI := cI) (cJ := cJ) (cC := cC) (cZ := cZ) (cR := cR) a_m a_typed a_glob a_length a_allows a_permissions a_many a_sort a_piece a_onward a_open a_seen a_stack a_bytes a_star a_behind a_ends a_ruleOf a_classOf a_example a_set a_given a_kind a_finer a_leads a_stateOf a_setOf (0 : Int32) v_rules yv_items_2 v_pieces v_first v_emptyOf v_classes v_sets v_states v_walker v_typed v_glob_90 (upd v_length v_rules.toNatClampNeg v_size) (upd v_allows v_rules.toNatClampNeg (vp_nar .boolean p1)) v_permissions v_many yv_sort_4 yv_piece_5 yv_onward_6 yv_open_7 yv_bytes_8 yv_star_9) C d_M_rule_145 4 3 rfl rfl (inB_in g23) rfl rfl ?_
            refine k_aload_n C d_M_rule_146 rfl 5 rfl rfl ?_
            refine k_getf C d_M_rule_147 hin_M rfl 6 (by decide) mw35 0 rfl rfl rfl ?_
            refine k_aload_n C d_M_rule_150 rfl 5 rfl rfl ?_
            refine k_getf C d_M_rule_151 hin_M rfl 2 (by decide) mw32 0 rfl rfl rfl ?_
            refine k_iload_n C d_M_rule_154 rfl 7 rfl rfl ?_
            have g24 := gd1 h
            replace h := gd2 h
            refine k_iast (ws' := w_M_rule (cI := cI) (cJ := cJ) (cC := cC) (cZ := cZ) (cR := cR) a_m a_typed a_glob a_length a_allows a_permissions a_many a_sort a_piece a_onward a_open a_seen a_stack a_bytes a_star a_behind a_ends a_ruleOf a_classOf a_example a_set a_given a_kind a_finer a_leads a_stateOf a_setOf (0 : Int32) v_rules yv_items_2 v_pieces v_first v_emptyOf v_classes v_sets v_states v_walker v_typed v_glob_90 (upd v_length v_rules.toNatClampNeg v_size) (upd v_allows v_rules.toNatClampNeg (vp_nar .boolean p1)) (upd v_permissions v_rules.toNatClampNeg p2) v_many yv_sort_4 yv_piece_5 yv_onward_6 yv_open_7 yv_bytes_8 yv_star_9) C d_M_rule_155 5 0 rfl rfl (inB_in g24) rfl rfl ?_
            refine k_aload_n C d_M_rule_156 rfl 5 rfl rfl ?_
            refine k_getf C d_M_rule_157 hin_M rfl 7 (by decide) mw33 0 rfl rfl rfl ?_
            refine k_aload_n C d_M_rule_160 rfl 5 rfl rfl ?_
            refine k_getf C d_M_rule_161 hin_M rfl 2 (by decide) mw32 0 rfl rfl rfl ?_
            refine k_iload C d_M_rule_164 2 rfl rfl ?_
            have g25 := gd1 h
            replace h := gd2 h
            refine k_iast (ws' := w_M_rule (cI := cI) (cJ := cJ) (cC := cC) (cZ := cZ) (cR := cR) a_m a_typed a_glob a_length a_allows a_permissions a_many a_sort a_piece a_onward a_open a_seen a_stack a_bytes a_star a_behind a_ends a_ruleOf a_classOf a_example a_set a_given a_kind a_finer a_leads a_stateOf a_setOf (0 : Int32) v_rules yv_items_2 v_pieces v_first v_emptyOf v_classes v_sets v_states v_walker v_typed v_glob_90 (upd v_length v_rules.toNatClampNeg v_size) (upd v_allows v_rules.toNatClampNeg (vp_nar .boolean p1)) (upd v_permissions v_rules.toNatClampNeg p2) (upd v_many v_rules.toNatClampNeg (yv_pieces_3 - v_pieces)) yv_sort_4 yv_piece_5 yv_onward_6 yv_open_7 yv_bytes_8 yv_star_9) C d_M_rule_166 6 0 rfl rfl (inB_in g25) rfl rfl ?_
            refine k_aload_n C d_M_rule_167 rfl 5 rfl rfl ?_
            refine k_aload_n C d_M_rule_168 rfl 5 rfl rfl ?_
            refine k_getf C d_M_rule_169 hin_M rfl 2 (by decide) mw32 0 rfl rfl rfl ?_
            refine k_iconst C d_M_rule_172 (v := (1 : Int32)) (by decide) rfl ?_
            refine k_iadd C d_M_rule_173 rfl ?_
            refine k_putf (ws' := w_M_rule (cI := cI) (cJ := cJ) (cC := cC) (cZ := cZ) (cR := cR) a_m a_typed a_glob a_length a_allows a_permissions a_many a_sort a_piece a_onward a_open a_seen a_stack a_bytes a_star a_behind a_ends a_ruleOf a_classOf a_example a_set a_given a_kind a_finer a_leads a_stateOf a_setOf (0 : Int32) (v_rules + (1 : Int32)) yv_items_2 v_pieces v_first v_emptyOf v_classes v_sets v_states v_walker v_typed v_glob_90 (upd v_length v_rules.toNatClampNeg v_size) (upd v_allows v_rules.toNatClampNeg (vp_nar .boolean p1)) (upd v_permissions v_rules.toNatClampNeg p2) (upd v_many v_rules.toNatClampNeg (yv_pieces_3 - v_pieces)) yv_sort_4 yv_piece_5 yv_onward_6 yv_open_7 yv_bytes_8 yv_star_9) C d_M_rule_174 hin_M hty_M hnn_M rfl 2 (by decide) mw32 rfl 0 rfl rfl rfl (Nat.le_of_ble_eq_true rfl) rfl rfl ?_
            refine k_aload_n C d_M_rule_177 rfl 5 rfl rfl ?_
            refine k_iconst C d_M_rule_178 (v := (0 : Int32)) (by decide) rfl ?_
            refine k_putf (ws' := w_M_rule (cI := cI) (cJ := cJ) (cC := cC) (cZ := cZ) (cR := cR) a_m a_typed a_glob a_length a_allows a_permissions a_many a_sort a_piece a_onward a_open a_seen a_stack a_bytes a_star a_behind a_ends a_ruleOf a_classOf a_example a_set a_given a_kind a_finer a_leads a_stateOf a_setOf (0 : Int32) (v_rules + (1 : Int32)) yv_items_2 v_pieces v_first v_emptyOf v_classes v_sets (0 : Int32) v_walker v_typed v_glob_90 (upd v_length v_rules.toNatClampNeg v_size) (upd v_allows v_rules.toNatClampNeg (vp_nar .boolean p1)) (upd v_permissions v_rules.toNatClampNeg p2) (upd v_many v_rules.toNatClampNeg (yv_pieces_3 - v_pieces)) yv_sort_4 yv_piece_5 yv_onward_6 yv_open_7 yv_bytes_8 yv_star_9) C d_M_rule_179 hin_M hty_M hnn_M rfl 32 (by decide) mw36 rfl 0 rfl rfl rfl (Nat.le_of_ble_eq_true rfl) rfl rfl ?_
            refine k_aload_n C d_M_rule_182 rfl 5 rfl rfl ?_
            refine k_getf C d_M_rule_183 hin_M rfl 2 (by decide) mw32 0 rfl rfl rfl ?_
            refine k_iconst C d_M_rule_186 (v := (1 : Int32)) (by decide) rfl ?_
            refine k_isub C d_M_rule_187 rfl ?_
            exact k_iret C d_M_rule_188 (tr1 h (fun t => (fun (o : Option Value) (w : va_W) => o = some (.int (t.1)) ∧ w = w_M_rule (cI := cI) (cJ := cJ) (cC := cC) (cZ := cZ) (cR := cR) a_m a_typed a_glob a_length a_allows a_permissions a_many a_sort a_piece a_onward a_open a_seen a_stack a_bytes a_star a_behind a_ends a_ruleOf a_classOf a_example a_set a_given a_kind a_finer a_leads a_stateOf a_setOf (t.2.1) (t.2.2.1) (t.2.2.2.1) (t.2.2.2.2.1) v_first v_emptyOf v_classes v_sets (t.2.2.2.2.2.1) v_walker v_typed (t.2.2.2.2.2.2.1) (t.2.2.2.2.2.2.2.1) (t.2.2.2.2.2.2.2.2.1) (t.2.2.2.2.2.2.2.2.2.1) (t.2.2.2.2.2.2.2.2.2.2.1) (t.2.2.2.2.2.2.2.2.2.2.2.1) (t.2.2.2.2.2.2.2.2.2.2.2.2.1) (t.2.2.2.2.2.2.2.2.2.2.2.2.2.1) (t.2.2.2.2.2.2.2.2.2.2.2.2.2.2.1) (t.2.2.2.2.2.2.2.2.2.2.2.2.2.2.2.1) (t.2.2.2.2.2.2.2.2.2.2.2.2.2.2.2.2)) (some (Value.int ((v_rules + (1 : Int32)) - (1 : Int32)))) (w_M_rule (cI := cI) (cJ := cJ) (cC := cC) (cZ := cZ) (cR := cR) a_m a_typed a_glob a_length a_allows a_permissions a_many a_sort a_piece a_onward a_open a_seen a_stack a_bytes a_star a_behind a_ends a_ruleOf a_classOf a_example a_set a_given a_kind a_finer a_leads a_stateOf a_setOf (0 : Int32) (v_rules + (1 : Int32)) yv_items_2 v_pieces v_first v_emptyOf v_classes v_sets (0 : Int32) v_walker v_typed v_glob_90 (upd v_length v_rules.toNatClampNeg v_size) (upd v_allows v_rules.toNatClampNeg (vp_nar .boolean p1)) (upd v_permissions v_rules.toNatClampNeg p2) (upd v_many v_rules.toNatClampNeg (yv_pieces_3 - v_pieces)) yv_sort_4 yv_piece_5 yv_onward_6 yv_open_7 yv_bytes_8 yv_star_9)) ⟨rfl, rfl⟩)
          have L90 : ∀ (kk90_0 : Int32 → (Nat → Int32) → Option (Int32 × Int32 × Int32 × Int32 × Int32 × Int32 × (Nat → Int32) × (Nat → Int32) × (Nat → Int32) × (Nat → Int32) × (Nat → Int32) × (Nat → Int32) × (Nat → Int32) × (Nat → Int32) × (Nat → Int32) × (Nat → Int64) × (Nat → Int32))) (hX90_0 : ∀ (l7_90 : Int32) (v_glob_90 : Nat → Int32), kk90_0 l7_90 v_glob_90 = some (o_r, o_v_size, o_v_rules, o_v_items, o_v_pieces, o_v_states, o_v_glob, o_v_length, o_v_allows, o_v_permissions, o_v_many, o_v_sort, o_v_piece, o_v_onward, o_v_open, o_v_bytes, o_v_star) → Wk X { frames := 4, cells := 0, slots := 0, locals := 110 } 8 D (va_A (w_M_rule (cI := cI) (cJ := cJ) (cC := cC) (cZ := cZ) (cR := cR) a_m a_typed a_glob a_length a_allows a_permissions a_many a_sort a_piece a_onward a_open a_seen a_stack a_bytes a_star a_behind a_ends a_ruleOf a_classOf a_example a_set a_given a_kind a_finer a_leads a_stateOf a_setOf v_size v_rules v_items v_pieces v_first v_emptyOf v_classes v_sets v_states v_walker v_typed v_glob v_length v_allows v_permissions v_many v_sort v_piece v_onward v_open v_bytes v_star) (xs X).heap.size) 0 0 (GE X D (w_M_rule (cI := cI) (cJ := cJ) (cC := cC) (cZ := cZ) (cR := cR) a_m a_typed a_glob a_length a_allows a_permissions a_many a_sort a_piece a_onward a_open a_seen a_stack a_bytes a_star a_behind a_ends a_ruleOf a_classOf a_example a_set a_given a_kind a_finer a_leads a_stateOf a_setOf v_size v_rules v_items v_pieces v_first v_emptyOf v_classes v_sets v_states v_walker v_typed v_glob v_length v_allows v_permissions v_many v_sort v_piece v_onward v_open v_bytes v_star) (fun (o : Option Value) (w : va_W) => o = some (.int o_r) ∧ w = w_M_rule (cI := cI) (cJ := cJ) (cC := cC) (cZ := cZ) (cR := cR) a_m a_typed a_glob a_length a_allows a_permissions a_many a_sort a_piece a_onward a_open a_seen a_stack a_bytes a_star a_behind a_ends a_ruleOf a_classOf a_example a_set a_given a_kind a_finer a_leads a_stateOf a_setOf o_v_size o_v_rules o_v_items o_v_pieces v_first v_emptyOf v_classes v_sets o_v_states v_walker v_typed o_v_glob o_v_length o_v_allows o_v_permissions o_v_many o_v_sort o_v_piece o_v_onward o_v_open o_v_bytes o_v_star) 0 0) (w_M_rule (cI := cI) (cJ := cJ) (cC := cC) (cZ := cZ) (cR := cR) a_m a_typed a_glob a_length a_allows a_permissions a_many a_sort a_piece a_onward a_open a_seen a_stack a_bytes a_star a_behind a_ends a_ruleOf a_classOf a_example a_set a_given a_kind a_finer a_leads a_stateOf a_setOf (0 : Int32) v_rules yv_items_2 v_pieces v_first v_emptyOf v_classes v_sets v_states v_walker v_typed v_glob_90 v_length v_allows v_permissions v_many yv_sort_4 yv_piece_5 yv_onward_6 yv_open_7 yv_bytes_8 yv_star_9) [(7, .int l7_90), (6, .int v_size), (5, .int (yv_pieces_3 - v_pieces)), (4, .int r1), (3, .int v_pieces), (0, .ref a_m), (1, .int p1), (2, .int p2)] [] 125) (n_90 : Nat) (l7_90 : Int32) (v_glob_90 : Nat → Int32), f_M_rule_L90 v_size v_rules v_typed kk90_0 n_90 l7_90 v_glob_90 = some (o_r, o_v_size, o_v_rules, o_v_items, o_v_pieces, o_v_states, o_v_glob, o_v_length, o_v_allows, o_v_permissions, o_v_many, o_v_sort, o_v_piece, o_v_onward, o_v_open, o_v_bytes, o_v_star) → Wk X { frames := 4, cells := 0, slots := 0, locals := 110 } 8 D (va_A (w_M_rule (cI := cI) (cJ := cJ) (cC := cC) (cZ := cZ) (cR := cR) a_m a_typed a_glob a_length a_allows a_permissions a_many a_sort a_piece a_onward a_open a_seen a_stack a_bytes a_star a_behind a_ends a_ruleOf a_classOf a_example a_set a_given a_kind a_finer a_leads a_stateOf a_setOf v_size v_rules v_items v_pieces v_first v_emptyOf v_classes v_sets v_states v_walker v_typed v_glob v_length v_allows v_permissions v_many v_sort v_piece v_onward v_open v_bytes v_star) (xs X).heap.size) 0 0 (GE X D (w_M_rule (cI := cI) (cJ := cJ) (cC := cC) (cZ := cZ) (cR := cR) a_m a_typed a_glob a_length a_allows a_permissions a_many a_sort a_piece a_onward a_open a_seen a_stack a_bytes a_star a_behind a_ends a_ruleOf a_classOf a_example a_set a_given a_kind a_finer a_leads a_stateOf a_setOf v_size v_rules v_items v_pieces v_first v_emptyOf v_classes v_sets v_states v_walker v_typed v_glob v_length v_allows v_permissions v_many v_sort v_piece v_onward v_open v_bytes v_star) (fun (o : Option Value) (w : va_W) => o = some (.int o_r) ∧ w = w_M_rule (cI := cI) (cJ := cJ) (cC := cC) (cZ := cZ) (cR := cR) a_m a_typed a_glob a_length a_allows a_permissions a_many a_sort a_piece a_onward a_open a_seen a_stack a_bytes a_star a_behind a_ends a_ruleOf a_classOf a_example a_set a_given a_kind a_finer a_leads a_stateOf a_setOf o_v_size o_v_rules o_v_items o_v_pieces v_first v_emptyOf v_classes v_sets o_v_states v_walker v_typed o_v_glob o_v_length o_v_allows o_v_permissions o_v_many o_v_sort o_v_piece o_v_onward o_v_open o_v_bytes o_v_star) 0 0) (w_M_rule (cI := cI) (cJ := cJ) (cC := cC) (cZ := cZ) (cR := cR) a_m a_typed a_glob a_length a_allows a_permissions a_many a_sort a_piece a_onward a_open a_seen a_stack a_bytes a_star a_behind a_ends a_ruleOf a_classOf a_example a_set a_given a_kind a_finer a_leads a_stateOf a_setOf (0 : Int32) v_rules yv_items_2 v_pieces v_first v_emptyOf v_classes v_sets v_states v_walker v_typed v_glob_90 v_length v_allows v_permissions v_many yv_sort_4 yv_piece_5 yv_onward_6 yv_open_7 yv_bytes_8 yv_star_9) [(7, .int l7_90), (6, .int v_size), (5, .int (yv_pieces_3 - v_pieces)), (4, .int r1), (3, .int v_pieces), (0, .ref a_m), (1, .int p1), (2, .int p2)] [] 90 := by
            intro kk90_0 hX90_0 n_90
            induction n_90 with
            | zero =>
              intro l7_90 v_glob_90 h
              exact nS h
            | succ n_90 ih90 =>
              intro l7_90 v_glob_90 h
              replace h := (f_M_rule_L90_s _ _ _ _ _ _ _).symm.trans h
              refine k_iload C d_M_rule_90 0 rfl rfl ?_
              refine k_iload C d_M_rule_92 1 rfl rfl ?_
              refine k_icmp_ge (tgt := 125) C d_M_rule_94 (by decide) rfl (fun c19 => ?_) (fun c19 => ?_)
              · replace h := gi_t h c19
                exact hX90_0 l7_90 v_glob_90 h
              · replace h := gi_f h c19
                refine k_aload_n C d_M_rule_97 rfl 5 rfl rfl ?_
                refine k_getf C d_M_rule_98 hin_M rfl 3 (by decide) mw22 0 rfl rfl rfl ?_
                refine k_bipush C d_M_rule_101 (v := (40 : Int32)) (by decide) rfl ?_
                refine k_aload_n C d_M_rule_103 rfl 5 rfl rfl ?_
                refine k_getf C d_M_rule_104 hin_M rfl 2 (by decide) mw32 0 rfl rfl rfl ?_
                refine k_imul C d_M_rule_107 rfl ?_
                refine k_iload C d_M_rule_108 0 rfl rfl ?_
                refine k_iadd C d_M_rule_110 rfl ?_
                refine k_aload_n C d_M_rule_111 rfl 5 rfl rfl ?_
                refine k_getf C d_M_rule_112 hin_M rfl 0 (by decide) mw0 0 rfl rfl rfl ?_
                refine k_iload C d_M_rule_115 0 rfl rfl ?_
                have g20 := gd1 h
                replace h := gd2 h
                refine k_iald C d_M_rule_117 1 0 rfl rfl (inB_in g20) rfl ?_
                have g21 := gd1 h
                replace h := gd2 h
                refine k_iast (ws' := w_M_rule (cI := cI) (cJ := cJ) (cC := cC) (cZ := cZ) (cR := cR) a_m a_typed a_glob a_length a_allows a_permissions a_many a_sort a_piece a_onward a_open a_seen a_stack a_bytes a_star a_behind a_ends a_ruleOf a_classOf a_example a_set a_given a_kind a_finer a_leads a_stateOf a_setOf (0 : Int32) v_rules yv_items_2 v_pieces v_first v_emptyOf v_classes v_sets v_states v_walker v_typed (upd v_glob_90 (((40 : Int32) * v_rules) + l7_90).toNatClampNeg (v_typed l7_90.toNatClampNeg)) v_length v_allows v_permissions v_many yv_sort_4 yv_piece_5 yv_onward_6 yv_open_7 yv_bytes_8 yv_star_9) C d_M_rule_118 2 0 rfl rfl (inB_in g21) rfl rfl ?_
                refine k_iinc (lv' := [(7, .int (l7_90 + 1)), (6, .int v_size), (5, .int (yv_pieces_3 - v_pieces)), (4, .int r1), (3, .int v_pieces), (0, .ref a_m), (1, .int p1), (2, .int p2)]) C d_M_rule_119 0 rfl rfl (by decide) rfl rfl ?_
                refine k_goto (tgt := 90) C d_M_rule_122 (by decide) ?_
                exact ih90 (l7_90 + 1) (upd v_glob_90 (((40 : Int32) * v_rules) + l7_90).toNatClampNeg (v_typed l7_90.toNatClampNeg)) h
          exact L90 (fun l7_90 v_glob_90 => (if inB v_rules 6 = true then (if inB v_rules 6 = true then (if inB v_rules 6 = true then (if inB v_rules 6 = true then some (((v_rules + (1 : Int32)) - (1 : Int32)), (0 : Int32), (v_rules + (1 : Int32)), yv_items_2, v_pieces, (0 : Int32), v_glob_90, (upd v_length v_rules.toNatClampNeg v_size), (upd v_allows v_rules.toNatClampNeg (vp_nar .boolean p1)), (upd v_permissions v_rules.toNatClampNeg p2), (upd v_many v_rules.toNatClampNeg (yv_pieces_3 - v_pieces)), yv_sort_4, yv_piece_5, yv_onward_6, yv_open_7, yv_bytes_8, yv_star_9) else none) else none) else none) else none)) X90_0 fu (0 : Int32) v_glob h
        · replace h := gi_f h c18
          refine k_sipush C d_M_rule_83 (v := (-1000 : Int32)) (by decide) rfl ?_
          exact k_iret C d_M_rule_86 (tr1 h (fun t => (fun (o : Option Value) (w : va_W) => o = some (.int (t.1)) ∧ w = w_M_rule (cI := cI) (cJ := cJ) (cC := cC) (cZ := cZ) (cR := cR) a_m a_typed a_glob a_length a_allows a_permissions a_many a_sort a_piece a_onward a_open a_seen a_stack a_bytes a_star a_behind a_ends a_ruleOf a_classOf a_example a_set a_given a_kind a_finer a_leads a_stateOf a_setOf (t.2.1) (t.2.2.1) (t.2.2.2.1) (t.2.2.2.2.1) v_first v_emptyOf v_classes v_sets (t.2.2.2.2.2.1) v_walker v_typed (t.2.2.2.2.2.2.1) (t.2.2.2.2.2.2.2.1) (t.2.2.2.2.2.2.2.2.1) (t.2.2.2.2.2.2.2.2.2.1) (t.2.2.2.2.2.2.2.2.2.2.1) (t.2.2.2.2.2.2.2.2.2.2.2.1) (t.2.2.2.2.2.2.2.2.2.2.2.2.1) (t.2.2.2.2.2.2.2.2.2.2.2.2.2.1) (t.2.2.2.2.2.2.2.2.2.2.2.2.2.2.1) (t.2.2.2.2.2.2.2.2.2.2.2.2.2.2.2.1) (t.2.2.2.2.2.2.2.2.2.2.2.2.2.2.2.2)) (some (Value.int (-1000 : Int32))) (w_M_rule (cI := cI) (cJ := cJ) (cC := cC) (cZ := cZ) (cR := cR) a_m a_typed a_glob a_length a_allows a_permissions a_many a_sort a_piece a_onward a_open a_seen a_stack a_bytes a_star a_behind a_ends a_ruleOf a_classOf a_example a_set a_given a_kind a_finer a_leads a_stateOf a_setOf (0 : Int32) v_rules yv_items_2 v_pieces v_first v_emptyOf v_classes v_sets v_states v_walker v_typed v_glob v_length v_allows v_permissions v_many yv_sort_4 yv_piece_5 yv_onward_6 yv_open_7 yv_bytes_8 yv_star_9)) ⟨rfl, rfl⟩)
  · replace h := gi_f h c11
    refine k_iload C d_M_rule_49 2 rfl rfl ?_
    exact k_iret C d_M_rule_51 (tr1 h (fun t => (fun (o : Option Value) (w : va_W) => o = some (.int (t.1)) ∧ w = w_M_rule (cI := cI) (cJ := cJ) (cC := cC) (cZ := cZ) (cR := cR) a_m a_typed a_glob a_length a_allows a_permissions a_many a_sort a_piece a_onward a_open a_seen a_stack a_bytes a_star a_behind a_ends a_ruleOf a_classOf a_example a_set a_given a_kind a_finer a_leads a_stateOf a_setOf (t.2.1) (t.2.2.1) (t.2.2.2.1) (t.2.2.2.2.1) v_first v_emptyOf v_classes v_sets (t.2.2.2.2.2.1) v_walker v_typed (t.2.2.2.2.2.2.1) (t.2.2.2.2.2.2.2.1) (t.2.2.2.2.2.2.2.2.1) (t.2.2.2.2.2.2.2.2.2.1) (t.2.2.2.2.2.2.2.2.2.2.1) (t.2.2.2.2.2.2.2.2.2.2.2.1) (t.2.2.2.2.2.2.2.2.2.2.2.2.1) (t.2.2.2.2.2.2.2.2.2.2.2.2.2.1) (t.2.2.2.2.2.2.2.2.2.2.2.2.2.2.1) (t.2.2.2.2.2.2.2.2.2.2.2.2.2.2.2.1) (t.2.2.2.2.2.2.2.2.2.2.2.2.2.2.2.2)) (some (Value.int r1)) (w_M_rule (cI := cI) (cJ := cJ) (cC := cC) (cZ := cZ) (cR := cR) a_m a_typed a_glob a_length a_allows a_permissions a_many a_sort a_piece a_onward a_open a_seen a_stack a_bytes a_star a_behind a_ends a_ruleOf a_classOf a_example a_set a_given a_kind a_finer a_leads a_stateOf a_setOf (0 : Int32) v_rules yv_items_2 v_pieces v_first v_emptyOf v_classes v_sets v_states v_walker v_typed v_glob v_length v_allows v_permissions v_many yv_sort_4 yv_piece_5 yv_onward_6 yv_open_7 yv_bytes_8 yv_star_9)) ⟨rfl, rfl⟩)
theorem d_M_drop_0 : decode b_M_drop 0 = .ok (.iload_n 1, 1) := by decide +kernel
theorem d_M_drop_1 : decode b_M_drop 1 = .ok (.iconst 0, 1) := by decide +kernel
theorem d_M_drop_2 : decode b_M_drop 2 = .ok (.aload_n 0, 1) := by decide +kernel
theorem d_M_drop_3 : decode b_M_drop 3 = .ok (.getfield 155, 3) := by decide +kernel
theorem d_M_drop_6 : decode b_M_drop 6 = .ok (.iconst 1, 1) := by decide +kernel
theorem d_M_drop_7 : decode b_M_drop 7 = .ok (.isub, 1) := by decide +kernel
theorem d_M_drop_8 : decode b_M_drop 8 = .ok (.invokestatic 90, 3) := by decide +kernel
theorem d_M_drop_11 : decode b_M_drop 11 = .ok (.ifCond .ne 5, 3) := by decide +kernel
theorem d_M_drop_14 : decode b_M_drop 14 = .ok (.iconst 0, 1) := by decide +kernel
theorem d_M_drop_15 : decode b_M_drop 15 = .ok (.ireturn, 1) := by decide +kernel
theorem d_M_drop_16 : decode b_M_drop 16 = .ok (.aload_n 0, 1) := by decide +kernel
theorem d_M_drop_17 : decode b_M_drop 17 = .ok (.aload_n 0, 1) := by decide +kernel
theorem d_M_drop_18 : decode b_M_drop 18 = .ok (.getfield 155, 3) := by decide +kernel
theorem d_M_drop_21 : decode b_M_drop 21 = .ok (.iconst 1, 1) := by decide +kernel
theorem d_M_drop_22 : decode b_M_drop 22 = .ok (.isub, 1) := by decide +kernel
theorem d_M_drop_23 : decode b_M_drop 23 = .ok (.putfield 155, 3) := by decide +kernel
theorem d_M_drop_26 : decode b_M_drop 26 = .ok (.iload_n 1, 1) := by decide +kernel
theorem d_M_drop_27 : decode b_M_drop 27 = .ok (.istore_n 2, 1) := by decide +kernel
theorem d_M_drop_28 : decode b_M_drop 28 = .ok (.iload_n 2, 1) := by decide +kernel
theorem d_M_drop_29 : decode b_M_drop 29 = .ok (.aload_n 0, 1) := by decide +kernel
theorem d_M_drop_30 : decode b_M_drop 30 = .ok (.getfield 155, 3) := by decide +kernel
theorem d_M_drop_33 : decode b_M_drop 33 = .ok (.if_icmp .ge 104, 3) := by decide +kernel
theorem d_M_drop_36 : decode b_M_drop 36 = .ok (.iconst 0, 1) := by decide +kernel
theorem d_M_drop_37 : decode b_M_drop 37 = .ok (.istore_n 3, 1) := by decide +kernel
theorem d_M_drop_38 : decode b_M_drop 38 = .ok (.iload_n 3, 1) := by decide +kernel
theorem d_M_drop_39 : decode b_M_drop 39 = .ok (.bipush 40, 2) := by decide +kernel
theorem d_M_drop_41 : decode b_M_drop 41 = .ok (.if_icmp .ge 34, 3) := by decide +kernel
theorem d_M_drop_44 : decode b_M_drop 44 = .ok (.aload_n 0, 1) := by decide +kernel
theorem d_M_drop_45 : decode b_M_drop 45 = .ok (.getfield 13, 3) := by decide +kernel
theorem d_M_drop_48 : decode b_M_drop 48 = .ok (.bipush 40, 2) := by decide +kernel
theorem d_M_drop_50 : decode b_M_drop 50 = .ok (.iload_n 2, 1) := by decide +kernel
theorem d_M_drop_51 : decode b_M_drop 51 = .ok (.imul, 1) := by decide +kernel
theorem d_M_drop_52 : decode b_M_drop 52 = .ok (.iload_n 3, 1) := by decide +kernel
theorem d_M_drop_53 : decode b_M_drop 53 = .ok (.iadd, 1) := by decide +kernel
theorem d_M_drop_54 : decode b_M_drop 54 = .ok (.aload_n 0, 1) := by decide +kernel
theorem d_M_drop_55 : decode b_M_drop 55 = .ok (.getfield 13, 3) := by decide +kernel
theorem d_M_drop_58 : decode b_M_drop 58 = .ok (.bipush 40, 2) := by decide +kernel
theorem d_M_drop_60 : decode b_M_drop 60 = .ok (.iload_n 2, 1) := by decide +kernel
theorem d_M_drop_61 : decode b_M_drop 61 = .ok (.imul, 1) := by decide +kernel
theorem d_M_drop_62 : decode b_M_drop 62 = .ok (.bipush 40, 2) := by decide +kernel
theorem d_M_drop_64 : decode b_M_drop 64 = .ok (.iadd, 1) := by decide +kernel
theorem d_M_drop_65 : decode b_M_drop 65 = .ok (.iload_n 3, 1) := by decide +kernel
theorem d_M_drop_66 : decode b_M_drop 66 = .ok (.iadd, 1) := by decide +kernel
theorem d_M_drop_67 : decode b_M_drop 67 = .ok (.iaload, 1) := by decide +kernel
theorem d_M_drop_68 : decode b_M_drop 68 = .ok (.iastore, 1) := by decide +kernel
theorem d_M_drop_69 : decode b_M_drop 69 = .ok (.iinc 3 1, 3) := by decide +kernel
theorem d_M_drop_72 : decode b_M_drop 72 = .ok (.goto (-34), 3) := by decide +kernel
theorem d_M_drop_75 : decode b_M_drop 75 = .ok (.aload_n 0, 1) := by decide +kernel
theorem d_M_drop_76 : decode b_M_drop 76 = .ok (.getfield 16, 3) := by decide +kernel
theorem d_M_drop_79 : decode b_M_drop 79 = .ok (.iload_n 2, 1) := by decide +kernel
theorem d_M_drop_80 : decode b_M_drop 80 = .ok (.aload_n 0, 1) := by decide +kernel
theorem d_M_drop_81 : decode b_M_drop 81 = .ok (.getfield 16, 3) := by decide +kernel
theorem d_M_drop_84 : decode b_M_drop 84 = .ok (.iload_n 2, 1) := by decide +kernel
theorem d_M_drop_85 : decode b_M_drop 85 = .ok (.iconst 1, 1) := by decide +kernel
theorem d_M_drop_86 : decode b_M_drop 86 = .ok (.iadd, 1) := by decide +kernel
theorem d_M_drop_87 : decode b_M_drop 87 = .ok (.iaload, 1) := by decide +kernel
theorem d_M_drop_88 : decode b_M_drop 88 = .ok (.iastore, 1) := by decide +kernel
theorem d_M_drop_89 : decode b_M_drop 89 = .ok (.aload_n 0, 1) := by decide +kernel
theorem d_M_drop_90 : decode b_M_drop 90 = .ok (.getfield 19, 3) := by decide +kernel
theorem d_M_drop_93 : decode b_M_drop 93 = .ok (.iload_n 2, 1) := by decide +kernel
theorem d_M_drop_94 : decode b_M_drop 94 = .ok (.aload_n 0, 1) := by decide +kernel
theorem d_M_drop_95 : decode b_M_drop 95 = .ok (.getfield 19, 3) := by decide +kernel
theorem d_M_drop_98 : decode b_M_drop 98 = .ok (.iload_n 2, 1) := by decide +kernel
theorem d_M_drop_99 : decode b_M_drop 99 = .ok (.iconst 1, 1) := by decide +kernel
theorem d_M_drop_100 : decode b_M_drop 100 = .ok (.iadd, 1) := by decide +kernel
theorem d_M_drop_101 : decode b_M_drop 101 = .ok (.baload, 1) := by decide +kernel
theorem d_M_drop_102 : decode b_M_drop 102 = .ok (.bastore, 1) := by decide +kernel
theorem d_M_drop_103 : decode b_M_drop 103 = .ok (.aload_n 0, 1) := by decide +kernel
theorem d_M_drop_104 : decode b_M_drop 104 = .ok (.getfield 23, 3) := by decide +kernel
theorem d_M_drop_107 : decode b_M_drop 107 = .ok (.iload_n 2, 1) := by decide +kernel
theorem d_M_drop_108 : decode b_M_drop 108 = .ok (.aload_n 0, 1) := by decide +kernel
theorem d_M_drop_109 : decode b_M_drop 109 = .ok (.getfield 23, 3) := by decide +kernel
theorem d_M_drop_112 : decode b_M_drop 112 = .ok (.iload_n 2, 1) := by decide +kernel
theorem d_M_drop_113 : decode b_M_drop 113 = .ok (.iconst 1, 1) := by decide +kernel
theorem d_M_drop_114 : decode b_M_drop 114 = .ok (.iadd, 1) := by decide +kernel
theorem d_M_drop_115 : decode b_M_drop 115 = .ok (.iaload, 1) := by decide +kernel
theorem d_M_drop_116 : decode b_M_drop 116 = .ok (.iastore, 1) := by decide +kernel
theorem d_M_drop_117 : decode b_M_drop 117 = .ok (.aload_n 0, 1) := by decide +kernel
theorem d_M_drop_118 : decode b_M_drop 118 = .ok (.getfield 26, 3) := by decide +kernel
theorem d_M_drop_121 : decode b_M_drop 121 = .ok (.iload_n 2, 1) := by decide +kernel
theorem d_M_drop_122 : decode b_M_drop 122 = .ok (.aload_n 0, 1) := by decide +kernel
theorem d_M_drop_123 : decode b_M_drop 123 = .ok (.getfield 26, 3) := by decide +kernel
theorem d_M_drop_126 : decode b_M_drop 126 = .ok (.iload_n 2, 1) := by decide +kernel
theorem d_M_drop_127 : decode b_M_drop 127 = .ok (.iconst 1, 1) := by decide +kernel
theorem d_M_drop_128 : decode b_M_drop 128 = .ok (.iadd, 1) := by decide +kernel
theorem d_M_drop_129 : decode b_M_drop 129 = .ok (.iaload, 1) := by decide +kernel
theorem d_M_drop_130 : decode b_M_drop 130 = .ok (.iastore, 1) := by decide +kernel
theorem d_M_drop_131 : decode b_M_drop 131 = .ok (.iinc 2 1, 3) := by decide +kernel
theorem d_M_drop_134 : decode b_M_drop 134 = .ok (.goto (-106), 3) := by decide +kernel
theorem d_M_drop_137 : decode b_M_drop 137 = .ok (.aload_n 0, 1) := by decide +kernel
theorem d_M_drop_138 : decode b_M_drop 138 = .ok (.iconst 0, 1) := by decide +kernel
theorem d_M_drop_139 : decode b_M_drop 139 = .ok (.putfield 162, 3) := by decide +kernel
theorem d_M_drop_142 : decode b_M_drop 142 = .ok (.iconst 1, 1) := by decide +kernel
theorem d_M_drop_143 : decode b_M_drop 143 = .ok (.ireturn, 1) := by decide +kernel
abbrev w_M_drop {cI cJ cC cZ cR : ClassId} (a_m a_typed a_glob a_length a_allows a_permissions a_many a_sort a_piece a_onward a_open a_seen a_stack a_bytes a_star a_behind a_ends a_ruleOf a_classOf a_example a_set a_given a_kind a_finer a_leads a_stateOf a_setOf : Nat) (v_size : Int32) (v_rules : Int32) (v_items : Int32) (v_pieces : Int32) (v_first : Int64) (v_emptyOf : Int32) (v_classes : Int32) (v_sets : Int32) (v_states : Int32) (v_walker : Int32) (v_glob : Nat → Int32) (v_length : Nat → Int32) (v_allows : Nat → Int32) (v_permissions : Nat → Int32) (v_many : Nat → Int32) : va_W := [(a_m, .inr (8, [.ref a_typed, .int v_size, .int v_rules, .ref a_glob, .ref a_length, .ref a_allows, .ref a_permissions, .ref a_many, .int v_items, .ref a_sort, .ref a_piece, .ref a_onward, .ref a_open, .ref a_seen, .ref a_stack, .int v_pieces, .ref a_bytes, .ref a_star, .ref a_behind, .ref a_ends, .ref a_ruleOf, .long v_first, .int v_emptyOf, .int v_classes, .ref a_classOf, .ref a_example, .int v_sets, .ref a_set, .ref a_given, .ref a_kind, .ref a_finer, .ref a_leads, .int v_states, .ref a_stateOf, .ref a_setOf, .int v_walker])), (a_glob, .inl (cI, 240, .inl v_glob)), (a_length, .inl (cI, 6, .inl v_length)), (a_allows, .inl (cZ, 6, .inl v_allows)), (a_permissions, .inl (cI, 6, .inl v_permissions)), (a_many, .inl (cI, 6, .inl v_many))]
def f_M_drop_L38 (l2_28 : Int32) (kk38_0 : Int32 → (Nat → Int32) → Option (Int32 × Int32 × Int32 × (Nat → Int32) × (Nat → Int32) × (Nat → Int32) × (Nat → Int32) × (Nat → Int32))) : Nat → Int32 → (Nat → Int32) → Option (Int32 × Int32 × Int32 × (Nat → Int32) × (Nat → Int32) × (Nat → Int32) × (Nat → Int32) × (Nat → Int32))
  | 0, _, _ => none
  | n_38 + 1, l3_38, v_glob_38 => (if (40 : Int32) ≤ l3_38 then (kk38_0 l3_38 v_glob_38) else (if inB ((((40 : Int32) * l2_28) + (40 : Int32)) + l3_38) 240 = true then (if inB (((40 : Int32) * l2_28) + l3_38) 240 = true then (f_M_drop_L38 l2_28 kk38_0 n_38 (l3_38 + 1) (upd v_glob_38 (((40 : Int32) * l2_28) + l3_38).toNatClampNeg (v_glob_38 ((((40 : Int32) * l2_28) + (40 : Int32)) + l3_38).toNatClampNeg))) else none) else none))
theorem f_M_drop_L38_s (l2_28 : Int32) (kk38_0 : Int32 → (Nat → Int32) → Option (Int32 × Int32 × Int32 × (Nat → Int32) × (Nat → Int32) × (Nat → Int32) × (Nat → Int32) × (Nat → Int32))) (n_38 : Nat) (l3_38 : Int32) (v_glob_38 : Nat → Int32) : f_M_drop_L38 l2_28 kk38_0 (n_38 + 1) l3_38 v_glob_38 = (if (40 : Int32) ≤ l3_38 then (kk38_0 l3_38 v_glob_38) else (if inB ((((40 : Int32) * l2_28) + (40 : Int32)) + l3_38) 240 = true then (if inB (((40 : Int32) * l2_28) + l3_38) 240 = true then (f_M_drop_L38 l2_28 kk38_0 n_38 (l3_38 + 1) (upd v_glob_38 (((40 : Int32) * l2_28) + l3_38).toNatClampNeg (v_glob_38 ((((40 : Int32) * l2_28) + (40 : Int32)) + l3_38).toNatClampNeg))) else none) else none)) := rfl
def f_M_drop_L28 (v_rules : Int32) (fu : Nat) (kk28_0 : Int32 → (Nat → Int32) → (Nat → Int32) → (Nat → Int32) → (Nat → Int32) → (Nat → Int32) → Option (Int32 × Int32 × Int32 × (Nat → Int32) × (Nat → Int32) × (Nat → Int32) × (Nat → Int32) × (Nat → Int32))) : Nat → Int32 → (Nat → Int32) → (Nat → Int32) → (Nat → Int32) → (Nat → Int32) → (Nat → Int32) → Option (Int32 × Int32 × Int32 × (Nat → Int32) × (Nat → Int32) × (Nat → Int32) × (Nat → Int32) × (Nat → Int32))
  | 0, _, _, _, _, _, _ => none
  | n_28 + 1, l2_28, v_glob_28, v_length_28, v_allows_28, v_permissions_28, v_many_28 => (if (v_rules - (1 : Int32)) ≤ l2_28 then (kk28_0 l2_28 v_glob_28 v_length_28 v_allows_28 v_permissions_28 v_many_28) else (f_M_drop_L38 l2_28 (fun l3_38 v_glob_38 => (if inB (l2_28 + (1 : Int32)) 6 = true then (if inB l2_28 6 = true then (if inB (l2_28 + (1 : Int32)) 6 = true then (if inB l2_28 6 = true then (if inB (l2_28 + (1 : Int32)) 6 = true then (if inB l2_28 6 = true then (if inB (l2_28 + (1 : Int32)) 6 = true then (if inB l2_28 6 = true then (f_M_drop_L28 v_rules fu kk28_0 n_28 (l2_28 + 1) v_glob_38 (upd v_length_28 l2_28.toNatClampNeg (v_length_28 (l2_28 + (1 : Int32)).toNatClampNeg)) (upd v_allows_28 l2_28.toNatClampNeg (vp_nar .boolean (v_allows_28 (l2_28 + (1 : Int32)).toNatClampNeg))) (upd v_permissions_28 l2_28.toNatClampNeg (v_permissions_28 (l2_28 + (1 : Int32)).toNatClampNeg)) (upd v_many_28 l2_28.toNatClampNeg (v_many_28 (l2_28 + (1 : Int32)).toNatClampNeg))) else none) else none) else none) else none) else none) else none) else none) else none)) fu (0 : Int32) v_glob_28))
theorem f_M_drop_L28_s (v_rules : Int32) (fu : Nat) (kk28_0 : Int32 → (Nat → Int32) → (Nat → Int32) → (Nat → Int32) → (Nat → Int32) → (Nat → Int32) → Option (Int32 × Int32 × Int32 × (Nat → Int32) × (Nat → Int32) × (Nat → Int32) × (Nat → Int32) × (Nat → Int32))) (n_28 : Nat) (l2_28 : Int32) (v_glob_28 : Nat → Int32) (v_length_28 : Nat → Int32) (v_allows_28 : Nat → Int32) (v_permissions_28 : Nat → Int32) (v_many_28 : Nat → Int32) : f_M_drop_L28 v_rules fu kk28_0 (n_28 + 1) l2_28 v_glob_28 v_length_28 v_allows_28 v_permissions_28 v_many_28 = (if (v_rules - (1 : Int32)) ≤ l2_28 then (kk28_0 l2_28 v_glob_28 v_length_28 v_allows_28 v_permissions_28 v_many_28) else (f_M_drop_L38 l2_28 (fun l3_38 v_glob_38 => (if inB (l2_28 + (1 : Int32)) 6 = true then (if inB l2_28 6 = true then (if inB (l2_28 + (1 : Int32)) 6 = true then (if inB l2_28 6 = true then (if inB (l2_28 + (1 : Int32)) 6 = true then (if inB l2_28 6 = true then (if inB (l2_28 + (1 : Int32)) 6 = true then (if inB l2_28 6 = true then (f_M_drop_L28 v_rules fu kk28_0 n_28 (l2_28 + 1) v_glob_38 (upd v_length_28 l2_28.toNatClampNeg (v_length_28 (l2_28 + (1 : Int32)).toNatClampNeg)) (upd v_allows_28 l2_28.toNatClampNeg (vp_nar .boolean (v_allows_28 (l2_28 + (1 : Int32)).toNatClampNeg))) (upd v_permissions_28 l2_28.toNatClampNeg (v_permissions_28 (l2_28 + (1 : Int32)).toNatClampNeg)) (upd v_many_28 l2_28.toNatClampNeg (v_many_28 (l2_28 + (1 : Int32)).toNatClampNeg))) else none) else none) else none) else none) else none) else none) else none) else none)) fu (0 : Int32) v_glob_28)) := rfl
def f_M_drop (fu : Nat) (p1 : Int32) (v_rules : Int32) (v_states : Int32) (v_glob : Nat → Int32) (v_length : Nat → Int32) (v_allows : Nat → Int32) (v_permissions : Nat → Int32) (v_many : Nat → Int32) : Option (Int32 × Int32 × Int32 × (Nat → Int32) × (Nat → Int32) × (Nat → Int32) × (Nat → Int32) × (Nat → Int32)) := (Option.bind (f_M_in p1 (0 : Int32) (v_rules - (1 : Int32))) fun r1 => (if r1 = 0 then (if ((0 : Int32) = 0 ∨ (0 : Int32) = 1) then some ((0 : Int32), v_rules, v_states, v_glob, v_length, v_allows, v_permissions, v_many) else none) else (f_M_drop_L28 v_rules fu (fun l2_28 v_glob_28 v_length_28 v_allows_28 v_permissions_28 v_many_28 => (if ((1 : Int32) = 0 ∨ (1 : Int32) = 1) then some ((1 : Int32), (v_rules - (1 : Int32)), (0 : Int32), v_glob_28, v_length_28, v_allows_28, v_permissions_28, v_many_28) else none)) fu p1 v_glob v_length v_allows v_permissions v_many)))
set_option maxRecDepth 100000 in
set_option maxHeartbeats 4000000 in
theorem c_M_drop {l : Launch} {D : va_G} {cI cJ cC cZ cR : ClassId} (fu : Nat) (a_m a_typed a_glob a_length a_allows a_permissions a_many a_sort a_piece a_onward a_open a_seen a_stack a_bytes a_star a_behind a_ends a_ruleOf a_classOf a_example a_set a_given a_kind a_finer a_leads a_stateOf a_setOf : Nat)   (v_size : Int32) (v_rules : Int32) (v_items : Int32) (v_pieces : Int32) (v_first : Int64) (v_emptyOf : Int32) (v_classes : Int32) (v_sets : Int32) (v_states : Int32) (v_walker : Int32) (v_glob : Nat → Int32) (v_length : Nat → Int32) (v_allows : Nat → Int32) (v_permissions : Nat → Int32) (v_many : Nat → Int32) (p1 : Int32) (o_r : Int32) (o_v_rules : Int32) (o_v_states : Int32) (o_v_glob : Nat → Int32) (o_v_length : Nat → Int32) (o_v_allows : Nat → Int32) (o_v_permissions : Nat → Int32) (o_v_many : Nat → Int32) (h : f_M_drop fu p1 v_rules v_states v_glob v_length v_allows v_permissions v_many = some (o_r, o_v_rules, o_v_states, o_v_glob, o_v_length, o_v_allows, o_v_permissions, o_v_many)) : GM l D (tysL cI cJ cC cZ cR) y_M_drop b_M_drop 4 (some (.boolean)) { frames := 1, cells := 0, slots := 0, locals := 22 } [.ref a_m, .int p1] (w_M_drop (cI := cI) (cJ := cJ) (cC := cC) (cZ := cZ) (cR := cR) a_m a_typed a_glob a_length a_allows a_permissions a_many a_sort a_piece a_onward a_open a_seen a_stack a_bytes a_star a_behind a_ends a_ruleOf a_classOf a_example a_set a_given a_kind a_finer a_leads a_stateOf a_setOf v_size v_rules v_items v_pieces v_first v_emptyOf v_classes v_sets v_states v_walker v_glob v_length v_allows v_permissions v_many) (fun (o : Option Value) (w : va_W) => o = some (.int o_r) ∧ w = w_M_drop (cI := cI) (cJ := cJ) (cC := cC) (cZ := cZ) (cR := cR) a_m a_typed a_glob a_length a_allows a_permissions a_many a_sort a_piece a_onward a_open a_seen a_stack a_bytes a_star a_behind a_ends a_ruleOf a_classOf a_example a_set a_given a_kind a_finer a_leads a_stateOf a_setOf v_size o_v_rules v_items v_pieces v_first v_emptyOf v_classes v_sets o_v_states v_walker o_v_glob o_v_length o_v_allows o_v_permissions o_v_many) := by
  refine GM.of (by decide) (Nat.le_of_ble_eq_true rfl) (lv := [(0, .ref a_m), (1, .int p1)]) rfl ?_
  intro X hX C
  subst hX
  refine k_iload_n C d_M_drop_0 rfl 1 rfl rfl ?_
  refine k_iconst C d_M_drop_1 (v := (0 : Int32)) (by decide) rfl ?_
  refine k_aload_n C d_M_drop_2 rfl 0 rfl rfl ?_
  refine k_getf C d_M_drop_3 hin_M rfl 2 (by decide) mw32 0 rfl rfl rfl ?_
  refine k_iconst C d_M_drop_6 (v := (1 : Int32)) (by decide) rfl ?_
  refine k_isub C d_M_drop_7 rfl ?_
  obtain ⟨r1, hc2, h⟩ := bd h
  refine k_callSd (As := [.int p1, .int (0 : Int32), .int (v_rules - (1 : Int32))]) (st := []) (st' := [.int r1]) (wn := w_M_drop (cI := cI) (cJ := cJ) (cC := cC) (cZ := cZ) (cR := cR) a_m a_typed a_glob a_length a_allows a_permissions a_many a_sort a_piece a_onward a_open a_seen a_stack a_bytes a_star a_behind a_ends a_ruleOf a_classOf a_example a_set a_given a_kind a_finer a_leads a_stateOf a_setOf v_size v_rules v_items v_pieces v_first v_emptyOf v_classes v_sets v_states v_walker v_glob v_length v_allows v_permissions v_many) C d_M_drop_8 (c_M_in fu p1 (0 : Int32) (v_rules - (1 : Int32)) r1 hc2) co_M_in cos_M_in mw2 (by decide) (by decide) (Nat.le_of_ble_eq_true rfl) rfl [] [0, 1, 2, 3, 4, 5] [0, 1, 2, 3, 4, 5] rfl (by decide +kernel) rfl (by decide +kernel) (by decide +kernel) rfl (by decide +kernel) rfl rfl ?_
  refine k_if_ne (tgt := 16) C d_M_drop_11 (by decide) rfl (fun c3 => ?_) (fun c3 => ?_)
  · replace h := gi_f h c3
    refine k_aload_n C d_M_drop_16 rfl 0 rfl rfl ?_
    refine k_aload_n C d_M_drop_17 rfl 0 rfl rfl ?_
    refine k_getf C d_M_drop_18 hin_M rfl 2 (by decide) mw32 0 rfl rfl rfl ?_
    refine k_iconst C d_M_drop_21 (v := (1 : Int32)) (by decide) rfl ?_
    refine k_isub C d_M_drop_22 rfl ?_
    refine k_putf (ws' := w_M_drop (cI := cI) (cJ := cJ) (cC := cC) (cZ := cZ) (cR := cR) a_m a_typed a_glob a_length a_allows a_permissions a_many a_sort a_piece a_onward a_open a_seen a_stack a_bytes a_star a_behind a_ends a_ruleOf a_classOf a_example a_set a_given a_kind a_finer a_leads a_stateOf a_setOf v_size (v_rules - (1 : Int32)) v_items v_pieces v_first v_emptyOf v_classes v_sets v_states v_walker v_glob v_length v_allows v_permissions v_many) C d_M_drop_23 hin_M hty_M hnn_M rfl 2 (by decide) mw32 rfl 0 rfl rfl rfl (Nat.le_of_ble_eq_true rfl) rfl rfl ?_
    refine k_iload_n C d_M_drop_26 rfl 1 rfl rfl ?_
    refine k_istore_n (lv' := [(2, .int p1), (0, .ref a_m), (1, .int p1)]) C d_M_drop_27 rfl (by decide) rfl rfl ?_
    have X28_0 : ∀ (l2_28 : Int32) (v_glob_28 : Nat → Int32) (v_length_28 : Nat → Int32) (v_allows_28 : Nat → Int32) (v_permissions_28 : Nat → Int32) (v_many_28 : Nat → Int32), (if ((1 : Int32) = 0 ∨ (1 : Int32) = 1) then some ((1 : Int32), (v_rules - (1 : Int32)), (0 : Int32), v_glob_28, v_length_28, v_allows_28, v_permissions_28, v_many_28) else none) = some (o_r, o_v_rules, o_v_states, o_v_glob, o_v_length, o_v_allows, o_v_permissions, o_v_many) → Wk X { frames := 1, cells := 0, slots := 0, locals := 22 } 4 D (va_A (w_M_drop (cI := cI) (cJ := cJ) (cC := cC) (cZ := cZ) (cR := cR) a_m a_typed a_glob a_length a_allows a_permissions a_many a_sort a_piece a_onward a_open a_seen a_stack a_bytes a_star a_behind a_ends a_ruleOf a_classOf a_example a_set a_given a_kind a_finer a_leads a_stateOf a_setOf v_size v_rules v_items v_pieces v_first v_emptyOf v_classes v_sets v_states v_walker v_glob v_length v_allows v_permissions v_many) (xs X).heap.size) 0 0 (GE X D (w_M_drop (cI := cI) (cJ := cJ) (cC := cC) (cZ := cZ) (cR := cR) a_m a_typed a_glob a_length a_allows a_permissions a_many a_sort a_piece a_onward a_open a_seen a_stack a_bytes a_star a_behind a_ends a_ruleOf a_classOf a_example a_set a_given a_kind a_finer a_leads a_stateOf a_setOf v_size v_rules v_items v_pieces v_first v_emptyOf v_classes v_sets v_states v_walker v_glob v_length v_allows v_permissions v_many) (fun (o : Option Value) (w : va_W) => o = some (.int o_r) ∧ w = w_M_drop (cI := cI) (cJ := cJ) (cC := cC) (cZ := cZ) (cR := cR) a_m a_typed a_glob a_length a_allows a_permissions a_many a_sort a_piece a_onward a_open a_seen a_stack a_bytes a_star a_behind a_ends a_ruleOf a_classOf a_example a_set a_given a_kind a_finer a_leads a_stateOf a_setOf v_size o_v_rules v_items v_pieces v_first v_emptyOf v_classes v_sets o_v_states v_walker o_v_glob o_v_length o_v_allows o_v_permissions o_v_many) 0 0) (w_M_drop (cI := cI) (cJ := cJ) (cC := cC) (cZ := cZ) (cR := cR) a_m a_typed a_glob a_length a_allows a_permissions a_many a_sort a_piece a_onward a_open a_seen a_stack a_bytes a_star a_behind a_ends a_ruleOf a_classOf a_example a_set a_given a_kind a_finer a_leads a_stateOf a_setOf v_size (v_rules - (1 : Int32)) v_items v_pieces v_first v_emptyOf v_classes v_sets v_states v_walker v_glob_28 v_length_28 v_allows_28 v_permissions_28 v_many_28) [(2, .int l2_28), (0, .ref a_m), (1, .int p1)] [] 137 := by
      intro l2_28 v_glob_28 v_length_28 v_allows_28 v_permissions_28 v_many_28 h
      refine k_aload_n C d_M_drop_137 rfl 1 rfl rfl ?_
      refine k_iconst C d_M_drop_138 (v := (0 : Int32)) (by decide) rfl ?_
      refine k_putf (ws' := w_M_drop (cI := cI) (cJ := cJ) (cC := cC) (cZ := cZ) (cR := cR) a_m a_typed a_glob a_length a_allows a_permissions a_many a_sort a_piece a_onward a_open a_seen a_stack a_bytes a_star a_behind a_ends a_ruleOf a_classOf a_example a_set a_given a_kind a_finer a_leads a_stateOf a_setOf v_size (v_rules - (1 : Int32)) v_items v_pieces v_first v_emptyOf v_classes v_sets (0 : Int32) v_walker v_glob_28 v_length_28 v_allows_28 v_permissions_28 v_many_28) C d_M_drop_139 hin_M hty_M hnn_M rfl 32 (by decide) mw36 rfl 0 rfl rfl rfl (Nat.le_of_ble_eq_true rfl) rfl rfl ?_
      refine k_iconst C d_M_drop_142 (v := (1 : Int32)) (by decide) rfl ?_
      have g16 := gd1 h
      replace h := gd2 h
      exact k_zret C d_M_drop_143 (nz_bool g16) (tr1 h (fun t => (fun (o : Option Value) (w : va_W) => o = some (.int (t.1)) ∧ w = w_M_drop (cI := cI) (cJ := cJ) (cC := cC) (cZ := cZ) (cR := cR) a_m a_typed a_glob a_length a_allows a_permissions a_many a_sort a_piece a_onward a_open a_seen a_stack a_bytes a_star a_behind a_ends a_ruleOf a_classOf a_example a_set a_given a_kind a_finer a_leads a_stateOf a_setOf v_size (t.2.1) v_items v_pieces v_first v_emptyOf v_classes v_sets (t.2.2.1) v_walker (t.2.2.2.1) (t.2.2.2.2.1) (t.2.2.2.2.2.1) (t.2.2.2.2.2.2.1) (t.2.2.2.2.2.2.2)) (some (Value.int (1 : Int32))) (w_M_drop (cI := cI) (cJ := cJ) (cC := cC) (cZ := cZ) (cR := cR) a_m a_typed a_glob a_length a_allows a_permissions a_many a_sort a_piece a_onward a_open a_seen a_stack a_bytes a_star a_behind a_ends a_ruleOf a_classOf a_example a_set a_given a_kind a_finer a_leads a_stateOf a_setOf v_size (v_rules - (1 : Int32)) v_items v_pieces v_first v_emptyOf v_classes v_sets (0 : Int32) v_walker v_glob_28 v_length_28 v_allows_28 v_permissions_28 v_many_28)) ⟨rfl, rfl⟩)
    have L28 : ∀ (kk28_0 : Int32 → (Nat → Int32) → (Nat → Int32) → (Nat → Int32) → (Nat → Int32) → (Nat → Int32) → Option (Int32 × Int32 × Int32 × (Nat → Int32) × (Nat → Int32) × (Nat → Int32) × (Nat → Int32) × (Nat → Int32))) (hX28_0 : ∀ (l2_28 : Int32) (v_glob_28 : Nat → Int32) (v_length_28 : Nat → Int32) (v_allows_28 : Nat → Int32) (v_permissions_28 : Nat → Int32) (v_many_28 : Nat → Int32), kk28_0 l2_28 v_glob_28 v_length_28 v_allows_28 v_permissions_28 v_many_28 = some (o_r, o_v_rules, o_v_states, o_v_glob, o_v_length, o_v_allows, o_v_permissions, o_v_many) → Wk X { frames := 1, cells := 0, slots := 0, locals := 22 } 4 D (va_A (w_M_drop (cI := cI) (cJ := cJ) (cC := cC) (cZ := cZ) (cR := cR) a_m a_typed a_glob a_length a_allows a_permissions a_many a_sort a_piece a_onward a_open a_seen a_stack a_bytes a_star a_behind a_ends a_ruleOf a_classOf a_example a_set a_given a_kind a_finer a_leads a_stateOf a_setOf v_size v_rules v_items v_pieces v_first v_emptyOf v_classes v_sets v_states v_walker v_glob v_length v_allows v_permissions v_many) (xs X).heap.size) 0 0 (GE X D (w_M_drop (cI := cI) (cJ := cJ) (cC := cC) (cZ := cZ) (cR := cR) a_m a_typed a_glob a_length a_allows a_permissions a_many a_sort a_piece a_onward a_open a_seen a_stack a_bytes a_star a_behind a_ends a_ruleOf a_classOf a_example a_set a_given a_kind a_finer a_leads a_stateOf a_setOf v_size v_rules v_items v_pieces v_first v_emptyOf v_classes v_sets v_states v_walker v_glob v_length v_allows v_permissions v_many) (fun (o : Option Value) (w : va_W) => o = some (.int o_r) ∧ w = w_M_drop (cI := cI) (cJ := cJ) (cC := cC) (cZ := cZ) (cR := cR) a_m a_typed a_glob a_length a_allows a_permissions a_many a_sort a_piece a_onward a_open a_seen a_stack a_bytes a_star a_behind a_ends a_ruleOf a_classOf a_example a_set a_given a_kind a_finer a_leads a_stateOf a_setOf v_size o_v_rules v_items v_pieces v_first v_emptyOf v_classes v_sets o_v_states v_walker o_v_glob o_v_length o_v_allows o_v_permissions o_v_many) 0 0) (w_M_drop (cI := cI) (cJ := cJ) (cC := cC) (cZ := cZ) (cR := cR) a_m a_typed a_glob a_length a_allows a_permissions a_many a_sort a_piece a_onward a_open a_seen a_stack a_bytes a_star a_behind a_ends a_ruleOf a_classOf a_example a_set a_given a_kind a_finer a_leads a_stateOf a_setOf v_size (v_rules - (1 : Int32)) v_items v_pieces v_first v_emptyOf v_classes v_sets v_states v_walker v_glob_28 v_length_28 v_allows_28 v_permissions_28 v_many_28) [(2, .int l2_28), (0, .ref a_m), (1, .int p1)] [] 137) (n_28 : Nat) (l2_28 : Int32) (v_glob_28 : Nat → Int32) (v_length_28 : Nat → Int32) (v_allows_28 : Nat → Int32) (v_permissions_28 : Nat → Int32) (v_many_28 : Nat → Int32), f_M_drop_L28 v_rules fu kk28_0 n_28 l2_28 v_glob_28 v_length_28 v_allows_28 v_permissions_28 v_many_28 = some (o_r, o_v_rules, o_v_states, o_v_glob, o_v_length, o_v_allows, o_v_permissions, o_v_many) → Wk X { frames := 1, cells := 0, slots := 0, locals := 22 } 4 D (va_A (w_M_drop (cI := cI) (cJ := cJ) (cC := cC) (cZ := cZ) (cR := cR) a_m a_typed a_glob a_length a_allows a_permissions a_many a_sort a_piece a_onward a_open a_seen a_stack a_bytes a_star a_behind a_ends a_ruleOf a_classOf a_example a_set a_given a_kind a_finer a_leads a_stateOf a_setOf v_size v_rules v_items v_pieces v_first v_emptyOf v_classes v_sets v_states v_walker v_glob v_length v_allows v_permissions v_many) (xs X).heap.size) 0 0 (GE X D (w_M_drop (cI := cI) (cJ := cJ) (cC := cC) (cZ := cZ) (cR := cR) a_m a_typed a_glob a_length a_allows a_permissions a_many a_sort a_piece a_onward a_open a_seen a_stack a_bytes a_star a_behind a_ends a_ruleOf a_classOf a_example a_set a_given a_kind a_finer a_leads a_stateOf a_setOf v_size v_rules v_items v_pieces v_first v_emptyOf v_classes v_sets v_states v_walker v_glob v_length v_allows v_permissions v_many) (fun (o : Option Value) (w : va_W) => o = some (.int o_r) ∧ w = w_M_drop (cI := cI) (cJ := cJ) (cC := cC) (cZ := cZ) (cR := cR) a_m a_typed a_glob a_length a_allows a_permissions a_many a_sort a_piece a_onward a_open a_seen a_stack a_bytes a_star a_behind a_ends a_ruleOf a_classOf a_example a_set a_given a_kind a_finer a_leads a_stateOf a_setOf v_size o_v_rules v_items v_pieces v_first v_emptyOf v_classes v_sets o_v_states v_walker o_v_glob o_v_length o_v_allows o_v_permissions o_v_many) 0 0) (w_M_drop (cI := cI) (cJ := cJ) (cC := cC) (cZ := cZ) (cR := cR) a_m a_typed a_glob a_length a_allows a_permissions a_many a_sort a_piece a_onward a_open a_seen a_stack a_bytes a_star a_behind a_ends a_ruleOf a_classOf a_example a_set a_given a_kind a_finer a_leads a_stateOf a_setOf v_size (v_rules - (1 : Int32)) v_items v_pieces v_first v_emptyOf v_classes v_sets v_states v_walker v_glob_28 v_length_28 v_allows_28 v_permissions_28 v_many_28) [(2, .int l2_28), (0, .ref a_m), (1, .int p1)] [] 28 := by
      intro kk28_0 hX28_0 n_28
      induction n_28 with
      | zero =>
        intro l2_28 v_glob_28 v_length_28 v_allows_28 v_permissions_28 v_many_28 h
        exact nS h
      | succ n_28 ih28 =>
        intro l2_28 v_glob_28 v_length_28 v_allows_28 v_permissions_28 v_many_28 h
        replace h := (f_M_drop_L28_s _ _ _ _ _ _ _ _ _ _).symm.trans h
        refine k_iload_n C d_M_drop_28 rfl 0 rfl rfl ?_
        refine k_aload_n C d_M_drop_29 rfl 1 rfl rfl ?_
        refine k_getf C d_M_drop_30 hin_M rfl 2 (by decide) mw32 0 rfl rfl rfl ?_
        refine k_icmp_ge (tgt := 137) C d_M_drop_33 (by decide) rfl (fun c4 => ?_) (fun c4 => ?_)
        · replace h := gi_t h c4
          exact hX28_0 l2_28 v_glob_28 v_length_28 v_allows_28 v_permissions_28 v_many_28 h
        · replace h := gi_f h c4
          refine k_iconst C d_M_drop_36 (v := (0 : Int32)) (by decide) rfl ?_
          refine k_istore_n (lv' := [(3, .int (0 : Int32)), (2, .int l2_28), (0, .ref a_m), (1, .int p1)]) C d_M_drop_37 rfl (by decide) rfl rfl ?_
          have X38_0 : ∀ (l3_38 : Int32) (v_glob_38 : Nat → Int32), (if inB (l2_28 + (1 : Int32)) 6 = true then (if inB l2_28 6 = true then (if inB (l2_28 + (1 : Int32)) 6 = true then (if inB l2_28 6 = true then (if inB (l2_28 + (1 : Int32)) 6 = true then (if inB l2_28 6 = true then (if inB (l2_28 + (1 : Int32)) 6 = true then (if inB l2_28 6 = true then (f_M_drop_L28 v_rules fu kk28_0 n_28 (l2_28 + 1) v_glob_38 (upd v_length_28 l2_28.toNatClampNeg (v_length_28 (l2_28 + (1 : Int32)).toNatClampNeg)) (upd v_allows_28 l2_28.toNatClampNeg (vp_nar .boolean (v_allows_28 (l2_28 + (1 : Int32)).toNatClampNeg))) (upd v_permissions_28 l2_28.toNatClampNeg (v_permissions_28 (l2_28 + (1 : Int32)).toNatClampNeg)) (upd v_many_28 l2_28.toNatClampNeg (v_many_28 (l2_28 + (1 : Int32)).toNatClampNeg))) else none) else none) else none) else none) else none) else none) else none) else none) = some (o_r, o_v_rules, o_v_states, o_v_glob, o_v_length, o_v_allows, o_v_permissions, o_v_many) → Wk X { frames := 1, cells := 0, slots := 0, locals := 22 } 4 D (va_A (w_M_drop (cI := cI) (cJ := cJ) (cC := cC) (cZ := cZ) (cR := cR) a_m a_typed a_glob a_length a_allows a_permissions a_many a_sort a_piece a_onward a_open a_seen a_stack a_bytes a_star a_behind a_ends a_ruleOf a_classOf a_example a_set a_given a_kind a_finer a_leads a_stateOf a_setOf v_size v_rules v_items v_pieces v_first v_emptyOf v_classes v_sets v_states v_walker v_glob v_length v_allows v_permissions v_many) (xs X).heap.size) 0 0 (GE X D (w_M_drop (cI := cI) (cJ := cJ) (cC := cC) (cZ := cZ) (cR := cR) a_m a_typed a_glob a_length a_allows a_permissions a_many a_sort a_piece a_onward a_open a_seen a_stack a_bytes a_star a_behind a_ends a_ruleOf a_classOf a_example a_set a_given a_kind a_finer a_leads a_stateOf a_setOf v_size v_rules v_items v_pieces v_first v_emptyOf v_classes v_sets v_states v_walker v_glob v_length v_allows v_permissions v_many) (fun (o : Option Value) (w : va_W) => o = some (.int o_r) ∧ w = w_M_drop (cI := cI) (cJ := cJ) (cC := cC) (cZ := cZ) (cR := cR) a_m a_typed a_glob a_length a_allows a_permissions a_many a_sort a_piece a_onward a_open a_seen a_stack a_bytes a_star a_behind a_ends a_ruleOf a_classOf a_example a_set a_given a_kind a_finer a_leads a_stateOf a_setOf v_size o_v_rules v_items v_pieces v_first v_emptyOf v_classes v_sets o_v_states v_walker o_v_glob o_v_length o_v_allows o_v_permissions o_v_many) 0 0) (w_M_drop (cI := cI) (cJ := cJ) (cC := cC) (cZ := cZ) (cR := cR) a_m a_typed a_glob a_length a_allows a_permissions a_many a_sort a_piece a_onward a_open a_seen a_stack a_bytes a_star a_behind a_ends a_ruleOf a_classOf a_example a_set a_given a_kind a_finer a_leads a_stateOf a_setOf v_size (v_rules - (1 : Int32)) v_items v_pieces v_first v_emptyOf v_classes v_sets v_states v_walker v_glob_38 v_length_28 v_allows_28 v_permissions_28 v_many_28) [(3, .int l3_38), (2, .int l2_28), (0, .ref a_m), (1, .int p1)] [] 75 := by
            intro l3_38 v_glob_38 h
            refine k_aload_n C d_M_drop_75 rfl 2 rfl rfl ?_
            refine k_getf C d_M_drop_76 hin_M rfl 4 (by decide) mw23 0 rfl rfl rfl ?_
            refine k_iload_n C d_M_drop_79 rfl 1 rfl rfl ?_
            refine k_aload_n C d_M_drop_80 rfl 2 rfl rfl ?_
            refine k_getf C d_M_drop_81 hin_M rfl 4 (by decide) mw23 0 rfl rfl rfl ?_
            refine k_iload_n C d_M_drop_84 rfl 1 rfl rfl ?_
            refine k_iconst C d_M_drop_85 (v := (1 : Int32)) (by decide) rfl ?_
            refine k_iadd C d_M_drop_86 rfl ?_
            have g8 := gd1 h
            replace h := gd2 h
            refine k_iald C d_M_drop_87 2 0 rfl rfl (inB_in g8) rfl ?_
            have g9 := gd1 h
            replace h := gd2 h
            refine k_iast (ws' := w_M_drop (cI := cI) (cJ := cJ) (cC := cC) (cZ := cZ) (cR := cR) a_m a_typed a_glob a_length a_allows a_permissions a_many a_sort a_piece a_onward a_open a_seen a_stack a_bytes a_star a_behind a_ends a_ruleOf a_classOf a_example a_set a_given a_kind a_finer a_leads a_stateOf a_setOf v_size (v_rules - (1 : Int32)) v_items v_pieces v_first v_emptyOf v_classes v_sets v_states v_walker v_glob_38 (upd v_length_28 l2_28.toNatClampNeg (v_length_28 (l2_28 + (1 : Int32)).toNatClampNeg)) v_allows_28 v_permissions_28 v_many_28) C d_M_drop_88 2 0 rfl rfl (inB_in g9) rfl rfl ?_
            refine k_aload_n C d_M_drop_89 rfl 2 rfl rfl ?_
            refine k_getf C d_M_drop_90 hin_M rfl 5 (by decide) mw34 0 rfl rfl rfl ?_
            refine k_iload_n C d_M_drop_93 rfl 1 rfl rfl ?_
            refine k_aload_n C d_M_drop_94 rfl 2 rfl rfl ?_
            refine k_getf C d_M_drop_95 hin_M rfl 5 (by decide) mw34 0 rfl rfl rfl ?_
            refine k_iload_n C d_M_drop_98 rfl 1 rfl rfl ?_
            refine k_iconst C d_M_drop_99 (v := (1 : Int32)) (by decide) rfl ?_
            refine k_iadd C d_M_drop_100 rfl ?_
            have g10 := gd1 h
            replace h := gd2 h
            refine k_zald C d_M_drop_101 3 3 rfl rfl (inB_in g10) rfl ?_
            have g11 := gd1 h
            replace h := gd2 h
            refine k_zast (ws' := w_M_drop (cI := cI) (cJ := cJ) (cC := cC) (cZ := cZ) (cR := cR) a_m a_typed a_glob a_length a_allows a_permissions a_many a_sort a_piece a_onward a_open a_seen a_stack a_bytes a_star a_behind a_ends a_ruleOf a_classOf a_example a_set a_given a_kind a_finer a_leads a_stateOf a_setOf v_size (v_rules - (1 : Int32)) v_items v_pieces v_first v_emptyOf v_classes v_sets v_states v_walker v_glob_38 (upd v_length_28 l2_28.toNatClampNeg (v_length_28 (l2_28 + (1 : Int32)).toNatClampNeg)) (upd v_allows_28 l2_28.toNatClampNeg (vp_nar .boolean (v_allows_28 (l2_28 + (1 : Int32)).toNatClampNeg))) v_permissions_28 v_many_28) C d_M_drop_102 3 3 rfl rfl (inB_in g11) rfl rfl ?_
            refine k_aload_n C d_M_drop_103 rfl 2 rfl rfl ?_
            refine k_getf C d_M_drop_104 hin_M rfl 6 (by decide) mw35 0 rfl rfl rfl ?_
            refine k_iload_n C d_M_drop_107 rfl 1 rfl rfl ?_
            refine k_aload_n C d_M_drop_108 rfl 2 rfl rfl ?_
            refine k_getf C d_M_drop_109 hin_M rfl 6 (by decide) mw35 0 rfl rfl rfl ?_
            refine k_iload_n C d_M_drop_112 rfl 1 rfl rfl ?_
            refine k_iconst C d_M_drop_113 (v := (1 : Int32)) (by decide) rfl ?_
            refine k_iadd C d_M_drop_114 rfl ?_
            have g12 := gd1 h
            replace h := gd2 h
            refine k_iald C d_M_drop_115 4 0 rfl rfl (inB_in g12) rfl ?_
            have g13 := gd1 h
            replace h := gd2 h
            refine k_iast (ws' := w_M_drop (cI := cI) (cJ := cJ) (cC := cC) (cZ := cZ) (cR := cR) a_m a_typed a_glob a_length a_allows a_permissions a_many a_sort a_piece a_onward a_open a_seen a_stack a_bytes a_star a_behind a_ends a_ruleOf a_classOf a_example a_set a_given a_kind a_finer a_leads a_stateOf a_setOf v_size (v_rules - (1 : Int32)) v_items v_pieces v_first v_emptyOf v_classes v_sets v_states v_walker v_glob_38 (upd v_length_28 l2_28.toNatClampNeg (v_length_28 (l2_28 + (1 : Int32)).toNatClampNeg)) (upd v_allows_28 l2_28.toNatClampNeg (vp_nar .boolean (v_allows_28 (l2_28 + (1 : Int32)).toNatClampNeg))) (upd v_permissions_28 l2_28.toNatClampNeg (v_permissions_28 (l2_28 + (1 : Int32)).toNatClampNeg)) v_many_28) C d_M_drop_116 4 0 rfl rfl (inB_in g13) rfl rfl ?_
            refine k_aload_n C d_M_drop_117 rfl 2 rfl rfl ?_
            refine k_getf C d_M_drop_118 hin_M rfl 7 (by decide) mw33 0 rfl rfl rfl ?_
            refine k_iload_n C d_M_drop_121 rfl 1 rfl rfl ?_
            refine k_aload_n C d_M_drop_122 rfl 2 rfl rfl ?_
            refine k_getf C d_M_drop_123 hin_M rfl 7 (by decide) mw33 0 rfl rfl rfl ?_
            refine k_iload_n C d_M_drop_126 rfl 1 rfl rfl ?_
            refine k_iconst C d_M_drop_127 (v := (1 : Int32)) (by decide) rfl ?_
            refine k_iadd C d_M_drop_128 rfl ?_
            have g14 := gd1 h
            replace h := gd2 h
            refine k_iald C d_M_drop_129 5 0 rfl rfl (inB_in g14) rfl ?_
            have g15 := gd1 h
            replace h := gd2 h
            refine k_iast (ws' := w_M_drop (cI := cI) (cJ := cJ) (cC := cC) (cZ := cZ) (cR := cR) a_m a_typed a_glob a_length a_allows a_permissions a_many a_sort a_piece a_onward a_open a_seen a_stack a_bytes a_star a_behind a_ends a_ruleOf a_classOf a_example a_set a_given a_kind a_finer a_leads a_stateOf a_setOf v_size (v_rules - (1 : Int32)) v_items v_pieces v_first v_emptyOf v_classes v_sets v_states v_walker v_glob_38 (upd v_length_28 l2_28.toNatClampNeg (v_length_28 (l2_28 + (1 : Int32)).toNatClampNeg)) (upd v_allows_28 l2_28.toNatClampNeg (vp_nar .boolean (v_allows_28 (l2_28 + (1 : Int32)).toNatClampNeg))) (upd v_permissions_28 l2_28.toNatClampNeg (v_permissions_28 (l2_28 + (1 : Int32)).toNatClampNeg)) (upd v_many_28 l2_28.toNatClampNeg (v_many_28 (l2_28 + (1 : Int32)).toNatClampNeg))) C d_M_drop_130 5 0 rfl rfl (inB_in g15) rfl rfl ?_
            refine k_iinc (lv' := [(2, .int (l2_28 + 1)), (3, .int l3_38), (0, .ref a_m), (1, .int p1)]) C d_M_drop_131 1 rfl rfl (by decide) rfl rfl ?_
            refine k_goto (tgt := 28) C d_M_drop_134 (by decide) ?_
            refine k_lpk [0, 2, 3] rfl ?_
            exact ih28 (l2_28 + 1) v_glob_38 (upd v_length_28 l2_28.toNatClampNeg (v_length_28 (l2_28 + (1 : Int32)).toNatClampNeg)) (upd v_allows_28 l2_28.toNatClampNeg (vp_nar .boolean (v_allows_28 (l2_28 + (1 : Int32)).toNatClampNeg))) (upd v_permissions_28 l2_28.toNatClampNeg (v_permissions_28 (l2_28 + (1 : Int32)).toNatClampNeg)) (upd v_many_28 l2_28.toNatClampNeg (v_many_28 (l2_28 + (1 : Int32)).toNatClampNeg)) h
          have L38 : ∀ (kk38_0 : Int32 → (Nat → Int32) → Option (Int32 × Int32 × Int32 × (Nat → Int32) × (Nat → Int32) × (Nat → Int32) × (Nat → Int32) × (Nat → Int32))) (hX38_0 : ∀ (l3_38 : Int32) (v_glob_38 : Nat → Int32), kk38_0 l3_38 v_glob_38 = some (o_r, o_v_rules, o_v_states, o_v_glob, o_v_length, o_v_allows, o_v_permissions, o_v_many) → Wk X { frames := 1, cells := 0, slots := 0, locals := 22 } 4 D (va_A (w_M_drop (cI := cI) (cJ := cJ) (cC := cC) (cZ := cZ) (cR := cR) a_m a_typed a_glob a_length a_allows a_permissions a_many a_sort a_piece a_onward a_open a_seen a_stack a_bytes a_star a_behind a_ends a_ruleOf a_classOf a_example a_set a_given a_kind a_finer a_leads a_stateOf a_setOf v_size v_rules v_items v_pieces v_first v_emptyOf v_classes v_sets v_states v_walker v_glob v_length v_allows v_permissions v_many) (xs X).heap.size) 0 0 (GE X D (w_M_drop (cI := cI) (cJ := cJ) (cC := cC) (cZ := cZ) (cR := cR) a_m a_typed a_glob a_length a_allows a_permissions a_many a_sort a_piece a_onward a_open a_seen a_stack a_bytes a_star a_behind a_ends a_ruleOf a_classOf a_example a_set a_given a_kind a_finer a_leads a_stateOf a_setOf v_size v_rules v_items v_pieces v_first v_emptyOf v_classes v_sets v_states v_walker v_glob v_length v_allows v_permissions v_many) (fun (o : Option Value) (w : va_W) => o = some (.int o_r) ∧ w = w_M_drop (cI := cI) (cJ := cJ) (cC := cC) (cZ := cZ) (cR := cR) a_m a_typed a_glob a_length a_allows a_permissions a_many a_sort a_piece a_onward a_open a_seen a_stack a_bytes a_star a_behind a_ends a_ruleOf a_classOf a_example a_set a_given a_kind a_finer a_leads a_stateOf a_setOf v_size o_v_rules v_items v_pieces v_first v_emptyOf v_classes v_sets o_v_states v_walker o_v_glob o_v_length o_v_allows o_v_permissions o_v_many) 0 0) (w_M_drop (cI := cI) (cJ := cJ) (cC := cC) (cZ := cZ) (cR := cR) a_m a_typed a_glob a_length a_allows a_permissions a_many a_sort a_piece a_onward a_open a_seen a_stack a_bytes a_star a_behind a_ends a_ruleOf a_classOf a_example a_set a_given a_kind a_finer a_leads a_stateOf a_setOf v_size (v_rules - (1 : Int32)) v_items v_pieces v_first v_emptyOf v_classes v_sets v_states v_walker v_glob_38 v_length_28 v_allows_28 v_permissions_28 v_many_28) [(3, .int l3_38), (2, .int l2_28), (0, .ref a_m), (1, .int p1)] [] 75) (n_38 : Nat) (l3_38 : Int32) (v_glob_38 : Nat → Int32), f_M_drop_L38 l2_28 kk38_0 n_38 l3_38 v_glob_38 = some (o_r, o_v_rules, o_v_states, o_v_glob, o_v_length, o_v_allows, o_v_permissions, o_v_many) → Wk X { frames := 1, cells := 0, slots := 0, locals := 22 } 4 D (va_A (w_M_drop (cI := cI) (cJ := cJ) (cC := cC) (cZ := cZ) (cR := cR) a_m a_typed a_glob a_length a_allows a_permissions a_many a_sort a_piece a_onward a_open a_seen a_stack a_bytes a_star a_behind a_ends a_ruleOf a_classOf a_example a_set a_given a_kind a_finer a_leads a_stateOf a_setOf v_size v_rules v_items v_pieces v_first v_emptyOf v_classes v_sets v_states v_walker v_glob v_length v_allows v_permissions v_many) (xs X).heap.size) 0 0 (GE X D (w_M_drop (cI := cI) (cJ := cJ) (cC := cC) (cZ := cZ) (cR := cR) a_m a_typed a_glob a_length a_allows a_permissions a_many a_sort a_piece a_onward a_open a_seen a_stack a_bytes a_star a_behind a_ends a_ruleOf a_classOf a_example a_set a_given a_kind a_finer a_leads a_stateOf a_setOf v_size v_rules v_items v_pieces v_first v_emptyOf v_classes v_sets v_states v_walker v_glob v_length v_allows v_permissions v_many) (fun (o : Option Value) (w : va_W) => o = some (.int o_r) ∧ w = w_M_drop (cI := cI) (cJ := cJ) (cC := cC) (cZ := cZ) (cR := cR) a_m a_typed a_glob a_length a_allows a_permissions a_many a_sort a_piece a_onward a_open a_seen a_stack a_bytes a_star a_behind a_ends a_ruleOf a_classOf a_example a_set a_given a_kind a_finer a_leads a_stateOf a_setOf v_size o_v_rules v_items v_pieces v_first v_emptyOf v_classes v_sets o_v_states v_walker o_v_glob o_v_length o_v_allows o_v_permissions o_v_many) 0 0) (w_M_drop (cI := cI) (cJ := cJ) (cC := cC) (cZ := cZ) (cR := cR) a_m a_typed a_glob a_length a_allows a_permissions a_many a_sort a_piece a_onward a_open a_seen a_stack a_bytes a_star a_behind a_ends a_ruleOf a_classOf a_example a_set a_given a_kind a_finer a_leads a_stateOf a_setOf v_size (v_rules - (1 : Int32)) v_items v_pieces v_first v_emptyOf v_classes v_sets v_states v_walker v_glob_38 v_length_28 v_allows_28 v_permissions_28 v_many_28) [(3, .int l3_38), (2, .int l2_28), (0, .ref a_m), (1, .int p1)] [] 38 := by
            intro kk38_0 hX38_0 n_38
            induction n_38 with
            | zero =>
              intro l3_38 v_glob_38 h
              exact nS h
            | succ n_38 ih38 =>
              intro l3_38 v_glob_38 h
              replace h := (f_M_drop_L38_s _ _ _ _ _).symm.trans h
              refine k_iload_n C d_M_drop_38 rfl 0 rfl rfl ?_
              refine k_bipush C d_M_drop_39 (v := (40 : Int32)) (by decide) rfl ?_
              refine k_icmp_ge (tgt := 75) C d_M_drop_41 (by decide) rfl (fun c5 => ?_) (fun c5 => ?_)
              · replace h := gi_t h c5
                exact hX38_0 l3_38 v_glob_38 h
              · replace h := gi_f h c5
                refine k_aload_n C d_M_drop_44 rfl 2 rfl rfl ?_
                refine k_getf C d_M_drop_45 hin_M rfl 3 (by decide) mw22 0 rfl rfl rfl ?_
                refine k_bipush C d_M_drop_48 (v := (40 : Int32)) (by decide) rfl ?_
                refine k_iload_n C d_M_drop_50 rfl 1 rfl rfl ?_
                refine k_imul C d_M_drop_51 rfl ?_
                refine k_iload_n C d_M_drop_52 rfl 0 rfl rfl ?_
                refine k_iadd C d_M_drop_53 rfl ?_
                refine k_aload_n C d_M_drop_54 rfl 2 rfl rfl ?_
                refine k_getf C d_M_drop_55 hin_M rfl 3 (by decide) mw22 0 rfl rfl rfl ?_
                refine k_bipush C d_M_drop_58 (v := (40 : Int32)) (by decide) rfl ?_
                refine k_iload_n C d_M_drop_60 rfl 1 rfl rfl ?_
                refine k_imul C d_M_drop_61 rfl ?_
                refine k_bipush C d_M_drop_62 (v := (40 : Int32)) (by decide) rfl ?_
                refine k_iadd C d_M_drop_64 rfl ?_
                refine k_iload_n C d_M_drop_65 rfl 0 rfl rfl ?_
                refine k_iadd C d_M_drop_66 rfl ?_
                have g6 := gd1 h
                replace h := gd2 h
                refine k_iald C d_M_drop_67 1 0 rfl rfl (inB_in g6) rfl ?_
                have g7 := gd1 h
                replace h := gd2 h
                refine k_iast (ws' := w_M_drop (cI := cI) (cJ := cJ) (cC := cC) (cZ := cZ) (cR := cR) a_m a_typed a_glob a_length a_allows a_permissions a_many a_sort a_piece a_onward a_open a_seen a_stack a_bytes a_star a_behind a_ends a_ruleOf a_classOf a_example a_set a_given a_kind a_finer a_leads a_stateOf a_setOf v_size (v_rules - (1 : Int32)) v_items v_pieces v_first v_emptyOf v_classes v_sets v_states v_walker (upd v_glob_38 (((40 : Int32) * l2_28) + l3_38).toNatClampNeg (v_glob_38 ((((40 : Int32) * l2_28) + (40 : Int32)) + l3_38).toNatClampNeg)) v_length_28 v_allows_28 v_permissions_28 v_many_28) C d_M_drop_68 1 0 rfl rfl (inB_in g7) rfl rfl ?_
                refine k_iinc (lv' := [(3, .int (l3_38 + 1)), (2, .int l2_28), (0, .ref a_m), (1, .int p1)]) C d_M_drop_69 0 rfl rfl (by decide) rfl rfl ?_
                refine k_goto (tgt := 38) C d_M_drop_72 (by decide) ?_
                exact ih38 (l3_38 + 1) (upd v_glob_38 (((40 : Int32) * l2_28) + l3_38).toNatClampNeg (v_glob_38 ((((40 : Int32) * l2_28) + (40 : Int32)) + l3_38).toNatClampNeg)) h
          exact L38 (fun l3_38 v_glob_38 => (if inB (l2_28 + (1 : Int32)) 6 = true then (if inB l2_28 6 = true then (if inB (l2_28 + (1 : Int32)) 6 = true then (if inB l2_28 6 = true then (if inB (l2_28 + (1 : Int32)) 6 = true then (if inB l2_28 6 = true then (if inB (l2_28 + (1 : Int32)) 6 = true then (if inB l2_28 6 = true then (f_M_drop_L28 v_rules fu kk28_0 n_28 (l2_28 + 1) v_glob_38 (upd v_length_28 l2_28.toNatClampNeg (v_length_28 (l2_28 + (1 : Int32)).toNatClampNeg)) (upd v_allows_28 l2_28.toNatClampNeg (vp_nar .boolean (v_allows_28 (l2_28 + (1 : Int32)).toNatClampNeg))) (upd v_permissions_28 l2_28.toNatClampNeg (v_permissions_28 (l2_28 + (1 : Int32)).toNatClampNeg)) (upd v_many_28 l2_28.toNatClampNeg (v_many_28 (l2_28 + (1 : Int32)).toNatClampNeg))) else none) else none) else none) else none) else none) else none) else none) else none)) X38_0 fu (0 : Int32) v_glob_28 h
    exact L28 (fun l2_28 v_glob_28 v_length_28 v_allows_28 v_permissions_28 v_many_28 => (if ((1 : Int32) = 0 ∨ (1 : Int32) = 1) then some ((1 : Int32), (v_rules - (1 : Int32)), (0 : Int32), v_glob_28, v_length_28, v_allows_28, v_permissions_28, v_many_28) else none)) X28_0 fu p1 v_glob v_length v_allows v_permissions v_many h
  · replace h := gi_t h c3
    refine k_iconst C d_M_drop_14 (v := (0 : Int32)) (by decide) rfl ?_
    have g17 := gd1 h
    replace h := gd2 h
    exact k_zret C d_M_drop_15 (nz_bool g17) (tr1 h (fun t => (fun (o : Option Value) (w : va_W) => o = some (.int (t.1)) ∧ w = w_M_drop (cI := cI) (cJ := cJ) (cC := cC) (cZ := cZ) (cR := cR) a_m a_typed a_glob a_length a_allows a_permissions a_many a_sort a_piece a_onward a_open a_seen a_stack a_bytes a_star a_behind a_ends a_ruleOf a_classOf a_example a_set a_given a_kind a_finer a_leads a_stateOf a_setOf v_size (t.2.1) v_items v_pieces v_first v_emptyOf v_classes v_sets (t.2.2.1) v_walker (t.2.2.2.1) (t.2.2.2.2.1) (t.2.2.2.2.2.1) (t.2.2.2.2.2.2.1) (t.2.2.2.2.2.2.2)) (some (Value.int (0 : Int32))) (w_M_drop (cI := cI) (cJ := cJ) (cC := cC) (cZ := cZ) (cR := cR) a_m a_typed a_glob a_length a_allows a_permissions a_many a_sort a_piece a_onward a_open a_seen a_stack a_bytes a_star a_behind a_ends a_ruleOf a_classOf a_example a_set a_given a_kind a_finer a_leads a_stateOf a_setOf v_size v_rules v_items v_pieces v_first v_emptyOf v_classes v_sets v_states v_walker v_glob v_length v_allows v_permissions v_many)) ⟨rfl, rfl⟩)
theorem d_M_rules_0 : decode b_M_rules 0 = .ok (.aload_n 0, 1) := by decide +kernel
theorem d_M_rules_1 : decode b_M_rules 1 = .ok (.getfield 155, 3) := by decide +kernel
theorem d_M_rules_4 : decode b_M_rules 4 = .ok (.ireturn, 1) := by decide +kernel
abbrev w_M_rules {cI cJ cC cZ cR : ClassId} (a_m a_typed a_glob a_length a_allows a_permissions a_many a_sort a_piece a_onward a_open a_seen a_stack a_bytes a_star a_behind a_ends a_ruleOf a_classOf a_example a_set a_given a_kind a_finer a_leads a_stateOf a_setOf : Nat) (v_size : Int32) (v_rules : Int32) (v_items : Int32) (v_pieces : Int32) (v_first : Int64) (v_emptyOf : Int32) (v_classes : Int32) (v_sets : Int32) (v_states : Int32) (v_walker : Int32) : va_W := [(a_m, .inr (8, [.ref a_typed, .int v_size, .int v_rules, .ref a_glob, .ref a_length, .ref a_allows, .ref a_permissions, .ref a_many, .int v_items, .ref a_sort, .ref a_piece, .ref a_onward, .ref a_open, .ref a_seen, .ref a_stack, .int v_pieces, .ref a_bytes, .ref a_star, .ref a_behind, .ref a_ends, .ref a_ruleOf, .long v_first, .int v_emptyOf, .int v_classes, .ref a_classOf, .ref a_example, .int v_sets, .ref a_set, .ref a_given, .ref a_kind, .ref a_finer, .ref a_leads, .int v_states, .ref a_stateOf, .ref a_setOf, .int v_walker]))]
def f_M_rules (v_rules : Int32) : Option (Int32) := some v_rules
set_option maxRecDepth 100000 in
set_option maxHeartbeats 4000000 in
theorem c_M_rules {l : Launch} {D : va_G} {cI cJ cC cZ cR : ClassId} (fu : Nat) (a_m a_typed a_glob a_length a_allows a_permissions a_many a_sort a_piece a_onward a_open a_seen a_stack a_bytes a_star a_behind a_ends a_ruleOf a_classOf a_example a_set a_given a_kind a_finer a_leads a_stateOf a_setOf : Nat)   (v_size : Int32) (v_rules : Int32) (v_items : Int32) (v_pieces : Int32) (v_first : Int64) (v_emptyOf : Int32) (v_classes : Int32) (v_sets : Int32) (v_states : Int32) (v_walker : Int32)  (o_r : Int32) (h : f_M_rules v_rules = some o_r) : GM l D (tysL cI cJ cC cZ cR) y_M_rules b_M_rules 1 (some (.int)) { frames := 0, cells := 0, slots := 0, locals := 0 } [.ref a_m] (w_M_rules (cI := cI) (cJ := cJ) (cC := cC) (cZ := cZ) (cR := cR) a_m a_typed a_glob a_length a_allows a_permissions a_many a_sort a_piece a_onward a_open a_seen a_stack a_bytes a_star a_behind a_ends a_ruleOf a_classOf a_example a_set a_given a_kind a_finer a_leads a_stateOf a_setOf v_size v_rules v_items v_pieces v_first v_emptyOf v_classes v_sets v_states v_walker) (fun (o : Option Value) (w : va_W) => o = some (.int o_r) ∧ w = w_M_rules (cI := cI) (cJ := cJ) (cC := cC) (cZ := cZ) (cR := cR) a_m a_typed a_glob a_length a_allows a_permissions a_many a_sort a_piece a_onward a_open a_seen a_stack a_bytes a_star a_behind a_ends a_ruleOf a_classOf a_example a_set a_given a_kind a_finer a_leads a_stateOf a_setOf v_size v_rules v_items v_pieces v_first v_emptyOf v_classes v_sets v_states v_walker) := by
  refine GM.of (by decide) (Nat.le_of_ble_eq_true rfl) (lv := [(0, .ref a_m)]) rfl ?_
  intro X hX C
  subst hX
  refine k_aload_n C d_M_rules_0 rfl 0 rfl rfl ?_
  refine k_getf C d_M_rules_1 hin_M rfl 2 (by decide) mw32 0 rfl rfl rfl ?_
  exact k_iret C d_M_rules_4 (tr1 h (fun t => (fun (o : Option Value) (w : va_W) => o = some (.int (t)) ∧ w = w_M_rules (cI := cI) (cJ := cJ) (cC := cC) (cZ := cZ) (cR := cR) a_m a_typed a_glob a_length a_allows a_permissions a_many a_sort a_piece a_onward a_open a_seen a_stack a_bytes a_star a_behind a_ends a_ruleOf a_classOf a_example a_set a_given a_kind a_finer a_leads a_stateOf a_setOf v_size v_rules v_items v_pieces v_first v_emptyOf v_classes v_sets v_states v_walker) (some (Value.int v_rules)) (w_M_rules (cI := cI) (cJ := cJ) (cC := cC) (cZ := cZ) (cR := cR) a_m a_typed a_glob a_length a_allows a_permissions a_many a_sort a_piece a_onward a_open a_seen a_stack a_bytes a_star a_behind a_ends a_ruleOf a_classOf a_example a_set a_given a_kind a_finer a_leads a_stateOf a_setOf v_size v_rules v_items v_pieces v_first v_emptyOf v_classes v_sets v_states v_walker)) ⟨rfl, rfl⟩)
theorem d_M_pieces_0 : decode b_M_pieces 0 = .ok (.iload_n 1, 1) := by decide +kernel
theorem d_M_pieces_1 : decode b_M_pieces 1 = .ok (.iconst 0, 1) := by decide +kernel
theorem d_M_pieces_2 : decode b_M_pieces 2 = .ok (.aload_n 0, 1) := by decide +kernel
theorem d_M_pieces_3 : decode b_M_pieces 3 = .ok (.getfield 155, 3) := by decide +kernel
theorem d_M_pieces_6 : decode b_M_pieces 6 = .ok (.iconst 1, 1) := by decide +kernel
theorem d_M_pieces_7 : decode b_M_pieces 7 = .ok (.isub, 1) := by decide +kernel
theorem d_M_pieces_8 : decode b_M_pieces 8 = .ok (.invokestatic 90, 3) := by decide +kernel
theorem d_M_pieces_11 : decode b_M_pieces 11 = .ok (.ifCond .eq 12, 3) := by decide +kernel
theorem d_M_pieces_14 : decode b_M_pieces 14 = .ok (.aload_n 0, 1) := by decide +kernel
theorem d_M_pieces_15 : decode b_M_pieces 15 = .ok (.getfield 26, 3) := by decide +kernel
theorem d_M_pieces_18 : decode b_M_pieces 18 = .ok (.iload_n 1, 1) := by decide +kernel
theorem d_M_pieces_19 : decode b_M_pieces 19 = .ok (.iaload, 1) := by decide +kernel
theorem d_M_pieces_20 : decode b_M_pieces 20 = .ok (.goto 4, 3) := by decide +kernel
theorem d_M_pieces_23 : decode b_M_pieces 23 = .ok (.iconst (-1), 1) := by decide +kernel
theorem d_M_pieces_24 : decode b_M_pieces 24 = .ok (.ireturn, 1) := by decide +kernel
abbrev w_M_pieces {cI cJ cC cZ cR : ClassId} (a_m a_typed a_glob a_length a_allows a_permissions a_many a_sort a_piece a_onward a_open a_seen a_stack a_bytes a_star a_behind a_ends a_ruleOf a_classOf a_example a_set a_given a_kind a_finer a_leads a_stateOf a_setOf : Nat) (v_size : Int32) (v_rules : Int32) (v_items : Int32) (v_pieces : Int32) (v_first : Int64) (v_emptyOf : Int32) (v_classes : Int32) (v_sets : Int32) (v_states : Int32) (v_walker : Int32) (v_many : Nat → Int32) : va_W := [(a_m, .inr (8, [.ref a_typed, .int v_size, .int v_rules, .ref a_glob, .ref a_length, .ref a_allows, .ref a_permissions, .ref a_many, .int v_items, .ref a_sort, .ref a_piece, .ref a_onward, .ref a_open, .ref a_seen, .ref a_stack, .int v_pieces, .ref a_bytes, .ref a_star, .ref a_behind, .ref a_ends, .ref a_ruleOf, .long v_first, .int v_emptyOf, .int v_classes, .ref a_classOf, .ref a_example, .int v_sets, .ref a_set, .ref a_given, .ref a_kind, .ref a_finer, .ref a_leads, .int v_states, .ref a_stateOf, .ref a_setOf, .int v_walker])), (a_many, .inl (cI, 6, .inl v_many))]
def f_M_pieces (p1 : Int32) (v_rules : Int32) (v_many : Nat → Int32) : Option (Int32) := (Option.bind (f_M_in p1 (0 : Int32) (v_rules - (1 : Int32))) fun r1 => (if r1 = 0 then some (-1 : Int32) else (if inB p1 6 = true then some (v_many p1.toNatClampNeg) else none)))
set_option maxRecDepth 100000 in
set_option maxHeartbeats 4000000 in
theorem c_M_pieces {l : Launch} {D : va_G} {cI cJ cC cZ cR : ClassId} (fu : Nat) (a_m a_typed a_glob a_length a_allows a_permissions a_many a_sort a_piece a_onward a_open a_seen a_stack a_bytes a_star a_behind a_ends a_ruleOf a_classOf a_example a_set a_given a_kind a_finer a_leads a_stateOf a_setOf : Nat)   (v_size : Int32) (v_rules : Int32) (v_items : Int32) (v_pieces : Int32) (v_first : Int64) (v_emptyOf : Int32) (v_classes : Int32) (v_sets : Int32) (v_states : Int32) (v_walker : Int32) (v_many : Nat → Int32) (p1 : Int32) (o_r : Int32) (h : f_M_pieces p1 v_rules v_many = some o_r) : GM l D (tysL cI cJ cC cZ cR) y_M_pieces b_M_pieces 2 (some (.int)) { frames := 1, cells := 0, slots := 0, locals := 22 } [.ref a_m, .int p1] (w_M_pieces (cI := cI) (cJ := cJ) (cC := cC) (cZ := cZ) (cR := cR) a_m a_typed a_glob a_length a_allows a_permissions a_many a_sort a_piece a_onward a_open a_seen a_stack a_bytes a_star a_behind a_ends a_ruleOf a_classOf a_example a_set a_given a_kind a_finer a_leads a_stateOf a_setOf v_size v_rules v_items v_pieces v_first v_emptyOf v_classes v_sets v_states v_walker v_many) (fun (o : Option Value) (w : va_W) => o = some (.int o_r) ∧ w = w_M_pieces (cI := cI) (cJ := cJ) (cC := cC) (cZ := cZ) (cR := cR) a_m a_typed a_glob a_length a_allows a_permissions a_many a_sort a_piece a_onward a_open a_seen a_stack a_bytes a_star a_behind a_ends a_ruleOf a_classOf a_example a_set a_given a_kind a_finer a_leads a_stateOf a_setOf v_size v_rules v_items v_pieces v_first v_emptyOf v_classes v_sets v_states v_walker v_many) := by
  refine GM.of (by decide) (Nat.le_of_ble_eq_true rfl) (lv := [(0, .ref a_m), (1, .int p1)]) rfl ?_
  intro X hX C
  subst hX
  refine k_iload_n C d_M_pieces_0 rfl 1 rfl rfl ?_
  refine k_iconst C d_M_pieces_1 (v := (0 : Int32)) (by decide) rfl ?_
  refine k_aload_n C d_M_pieces_2 rfl 0 rfl rfl ?_
  refine k_getf C d_M_pieces_3 hin_M rfl 2 (by decide) mw32 0 rfl rfl rfl ?_
  refine k_iconst C d_M_pieces_6 (v := (1 : Int32)) (by decide) rfl ?_
  refine k_isub C d_M_pieces_7 rfl ?_
  obtain ⟨r1, hc2, h⟩ := bd h
  refine k_callSd (As := [.int p1, .int (0 : Int32), .int (v_rules - (1 : Int32))]) (st := []) (st' := [.int r1]) (wn := w_M_pieces (cI := cI) (cJ := cJ) (cC := cC) (cZ := cZ) (cR := cR) a_m a_typed a_glob a_length a_allows a_permissions a_many a_sort a_piece a_onward a_open a_seen a_stack a_bytes a_star a_behind a_ends a_ruleOf a_classOf a_example a_set a_given a_kind a_finer a_leads a_stateOf a_setOf v_size v_rules v_items v_pieces v_first v_emptyOf v_classes v_sets v_states v_walker v_many) C d_M_pieces_8 (c_M_in fu p1 (0 : Int32) (v_rules - (1 : Int32)) r1 hc2) co_M_in cos_M_in mw2 (by decide) (by decide) (Nat.le_of_ble_eq_true rfl) rfl [] [0, 1] [0, 1] rfl (by decide +kernel) rfl (by decide +kernel) (by decide +kernel) rfl (by decide +kernel) rfl rfl ?_
  refine k_if_eq (tgt := 23) C d_M_pieces_11 (by decide) rfl (fun c3 => ?_) (fun c3 => ?_)
  · replace h := gi_t h c3
    refine k_iconst C d_M_pieces_23 (v := (-1 : Int32)) (by decide) rfl ?_
    exact k_iret C d_M_pieces_24 (tr1 h (fun t => (fun (o : Option Value) (w : va_W) => o = some (.int (t)) ∧ w = w_M_pieces (cI := cI) (cJ := cJ) (cC := cC) (cZ := cZ) (cR := cR) a_m a_typed a_glob a_length a_allows a_permissions a_many a_sort a_piece a_onward a_open a_seen a_stack a_bytes a_star a_behind a_ends a_ruleOf a_classOf a_example a_set a_given a_kind a_finer a_leads a_stateOf a_setOf v_size v_rules v_items v_pieces v_first v_emptyOf v_classes v_sets v_states v_walker v_many) (some (Value.int (-1 : Int32))) (w_M_pieces (cI := cI) (cJ := cJ) (cC := cC) (cZ := cZ) (cR := cR) a_m a_typed a_glob a_length a_allows a_permissions a_many a_sort a_piece a_onward a_open a_seen a_stack a_bytes a_star a_behind a_ends a_ruleOf a_classOf a_example a_set a_given a_kind a_finer a_leads a_stateOf a_setOf v_size v_rules v_items v_pieces v_first v_emptyOf v_classes v_sets v_states v_walker v_many)) ⟨rfl, rfl⟩)
  · replace h := gi_f h c3
    refine k_aload_n C d_M_pieces_14 rfl 0 rfl rfl ?_
    refine k_getf C d_M_pieces_15 hin_M rfl 7 (by decide) mw33 0 rfl rfl rfl ?_
    refine k_iload_n C d_M_pieces_18 rfl 1 rfl rfl ?_
    have g4 := gd1 h
    replace h := gd2 h
    refine k_iald C d_M_pieces_19 1 0 rfl rfl (inB_in g4) rfl ?_
    refine k_goto (tgt := 24) C d_M_pieces_20 (by decide) ?_
    exact k_iret C d_M_pieces_24 (tr1 h (fun t => (fun (o : Option Value) (w : va_W) => o = some (.int (t)) ∧ w = w_M_pieces (cI := cI) (cJ := cJ) (cC := cC) (cZ := cZ) (cR := cR) a_m a_typed a_glob a_length a_allows a_permissions a_many a_sort a_piece a_onward a_open a_seen a_stack a_bytes a_star a_behind a_ends a_ruleOf a_classOf a_example a_set a_given a_kind a_finer a_leads a_stateOf a_setOf v_size v_rules v_items v_pieces v_first v_emptyOf v_classes v_sets v_states v_walker v_many) (some (Value.int (v_many p1.toNatClampNeg))) (w_M_pieces (cI := cI) (cJ := cJ) (cC := cC) (cZ := cZ) (cR := cR) a_m a_typed a_glob a_length a_allows a_permissions a_many a_sort a_piece a_onward a_open a_seen a_stack a_bytes a_star a_behind a_ends a_ruleOf a_classOf a_example a_set a_given a_kind a_finer a_leads a_stateOf a_setOf v_size v_rules v_items v_pieces v_first v_emptyOf v_classes v_sets v_states v_walker v_many)) ⟨rfl, rfl⟩)
