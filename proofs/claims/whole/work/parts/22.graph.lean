theorem d_Graph_add_0 : decode b_Graph_add 0 = .ok (.aload_n 0, 1) := by decide +kernel
theorem d_Graph_add_1 : decode b_Graph_add 1 = .ok (.getfield 32, 3) := by decide +kernel
theorem d_Graph_add_4 : decode b_Graph_add 4 = .ok (.iload 4, 2) := by decide +kernel
theorem d_Graph_add_6 : decode b_Graph_add 6 = .ok (.if_icmp .ge 12, 3) := by decide +kernel
theorem d_Graph_add_9 : decode b_Graph_add 9 = .ok (.aload_n 0, 1) := by decide +kernel
theorem d_Graph_add_10 : decode b_Graph_add 10 = .ok (.getfield 32, 3) := by decide +kernel
theorem d_Graph_add_13 : decode b_Graph_add 13 = .ok (.bipush 120, 2) := by decide +kernel
theorem d_Graph_add_15 : decode b_Graph_add 15 = .ok (.if_icmp .lt 5, 3) := by decide +kernel
theorem d_Graph_add_18 : decode b_Graph_add 18 = .ok (.iconst (-1), 1) := by decide +kernel
theorem d_Graph_add_19 : decode b_Graph_add 19 = .ok (.ireturn, 1) := by decide +kernel
theorem d_Graph_add_20 : decode b_Graph_add 20 = .ok (.aload_n 0, 1) := by decide +kernel
theorem d_Graph_add_21 : decode b_Graph_add 21 = .ok (.getfield 9, 3) := by decide +kernel
theorem d_Graph_add_24 : decode b_Graph_add 24 = .ok (.aload_n 0, 1) := by decide +kernel
theorem d_Graph_add_25 : decode b_Graph_add 25 = .ok (.getfield 32, 3) := by decide +kernel
theorem d_Graph_add_28 : decode b_Graph_add 28 = .ok (.lload_n 1, 1) := by decide +kernel
theorem d_Graph_add_29 : decode b_Graph_add 29 = .ok (.lastore, 1) := by decide +kernel
theorem d_Graph_add_30 : decode b_Graph_add 30 = .ok (.aload_n 0, 1) := by decide +kernel
theorem d_Graph_add_31 : decode b_Graph_add 31 = .ok (.dup, 1) := by decide +kernel
theorem d_Graph_add_32 : decode b_Graph_add 32 = .ok (.getfield 32, 3) := by decide +kernel
theorem d_Graph_add_35 : decode b_Graph_add 35 = .ok (.iconst 1, 1) := by decide +kernel
theorem d_Graph_add_36 : decode b_Graph_add 36 = .ok (.iadd, 1) := by decide +kernel
theorem d_Graph_add_37 : decode b_Graph_add 37 = .ok (.putfield 32, 3) := by decide +kernel
theorem d_Graph_add_40 : decode b_Graph_add 40 = .ok (.aload_n 0, 1) := by decide +kernel
theorem d_Graph_add_41 : decode b_Graph_add 41 = .ok (.getfield 19, 3) := by decide +kernel
theorem d_Graph_add_44 : decode b_Graph_add 44 = .ok (.iload_n 3, 1) := by decide +kernel
theorem d_Graph_add_45 : decode b_Graph_add 45 = .ok (.aload_n 0, 1) := by decide +kernel
theorem d_Graph_add_46 : decode b_Graph_add 46 = .ok (.getfield 32, 3) := by decide +kernel
theorem d_Graph_add_49 : decode b_Graph_add 49 = .ok (.iastore, 1) := by decide +kernel
theorem d_Graph_add_50 : decode b_Graph_add 50 = .ok (.aload_n 0, 1) := by decide +kernel
theorem d_Graph_add_51 : decode b_Graph_add 51 = .ok (.getfield 32, 3) := by decide +kernel
theorem d_Graph_add_54 : decode b_Graph_add 54 = .ok (.iconst 1, 1) := by decide +kernel
theorem d_Graph_add_55 : decode b_Graph_add 55 = .ok (.isub, 1) := by decide +kernel
theorem d_Graph_add_56 : decode b_Graph_add 56 = .ok (.ireturn, 1) := by decide +kernel
abbrev w_Graph_add {cI cJ cC cZ cR : ClassId} (a_s a_z a_sf a_sl a_sx : Nat) (ss_count : Int32) (ss_found : Nat → Int64) (ss_slots : Nat → Int32) : va_W := [(a_s, .inr (5, [.ref a_z, .ref a_sf, .ref a_sl, .ref a_sx, .int ss_count])), (a_sf, .inl (cJ, 120, .inr (.inl ss_found))), (a_sx, .inl (cI, 256, .inl ss_slots))]
def f_Graph_add (p1 : Int64) (p3 : Int32) (p4 : Int32) (ss_count : Int32) (ss_found : Nat → Int64) (ss_slots : Nat → Int32) : Option (Int32 × Int32 × (Nat → Int64) × (Nat → Int32)) := (if p4 ≤ ss_count then some ((-1 : Int32), ss_count, ss_found, ss_slots) else (if ss_count < (120 : Int32) then (if inB ss_count 120 = true then (if inB p3 256 = true then some (((ss_count + (1 : Int32)) - (1 : Int32)), (ss_count + (1 : Int32)), (vp_updL ss_found ss_count.toNatClampNeg p1), (upd ss_slots p3.toNatClampNeg (ss_count + (1 : Int32)))) else none) else none) else some ((-1 : Int32), ss_count, ss_found, ss_slots)))
set_option maxRecDepth 100000 in
set_option maxHeartbeats 4000000 in
theorem c_Graph_add {l : Launch} {D : va_G} {cI cJ cC cZ cR : ClassId} (fu : Nat) (a_s a_z a_sf a_sl a_sx : Nat)   (ss_count : Int32) (ss_found : Nat → Int64) (ss_slots : Nat → Int32) (p1 : Int64) (p3 : Int32) (p4 : Int32) (o_r : Int32) (o_ss_count : Int32) (o_ss_found : Nat → Int64) (o_ss_slots : Nat → Int32) (h : f_Graph_add p1 p3 p4 ss_count ss_found ss_slots = some (o_r, o_ss_count, o_ss_found, o_ss_slots)) : GM l D (tysL cI cJ cC cZ cR) y_Graph_add b_Graph_add 5 (some (.int)) { frames := 0, cells := 0, slots := 0, locals := 0 } [.ref a_s, .long p1, .int p3, .int p4] (w_Graph_add (cI := cI) (cJ := cJ) (cC := cC) (cZ := cZ) (cR := cR) a_s a_z a_sf a_sl a_sx ss_count ss_found ss_slots) (fun (o : Option Value) (w : va_W) => o = some (.int o_r) ∧ w = w_Graph_add (cI := cI) (cJ := cJ) (cC := cC) (cZ := cZ) (cR := cR) a_s a_z a_sf a_sl a_sx o_ss_count o_ss_found o_ss_slots) := by
  refine GM.of (by decide) (Nat.le_of_ble_eq_true rfl) (lv := [(0, .ref a_s), (1, .long p1), (3, .int p3), (4, .int p4)]) rfl ?_
  intro X hX C
  subst hX
  refine k_aload_n C d_Graph_add_0 rfl 0 rfl rfl ?_
  refine k_getf C d_Graph_add_1 hin_Graph rfl 4 (by decide) mw126 0 rfl rfl rfl ?_
  refine k_iload C d_Graph_add_4 3 rfl rfl ?_
  refine k_icmp_ge (tgt := 18) C d_Graph_add_6 (by decide) rfl (fun c1 => ?_) (fun c1 => ?_)
  · replace h := gi_t h c1
    refine k_iconst C d_Graph_add_18 (v := (-1 : Int32)) (by decide) rfl ?_
    exact k_iret C d_Graph_add_19 (tr1 h (fun t => (fun (o : Option Value) (w : va_W) => o = some (.int (t.1)) ∧ w = w_Graph_add (cI := cI) (cJ := cJ) (cC := cC) (cZ := cZ) (cR := cR) a_s a_z a_sf a_sl a_sx (t.2.1) (t.2.2.1) (t.2.2.2)) (some (Value.int (-1 : Int32))) (w_Graph_add (cI := cI) (cJ := cJ) (cC := cC) (cZ := cZ) (cR := cR) a_s a_z a_sf a_sl a_sx ss_count ss_found ss_slots)) ⟨rfl, rfl⟩)
  · replace h := gi_f h c1
    refine k_aload_n C d_Graph_add_9 rfl 0 rfl rfl ?_
    refine k_getf C d_Graph_add_10 hin_Graph rfl 4 (by decide) mw126 0 rfl rfl rfl ?_
    refine k_bipush C d_Graph_add_13 (v := (120 : Int32)) (by decide) rfl ?_
    refine k_icmp_lt (tgt := 20) C d_Graph_add_15 (by decide) rfl (fun c2 => ?_) (fun c2 => ?_)
    · replace h := gi_t h c2
      refine k_aload_n C d_Graph_add_20 rfl 0 rfl rfl ?_
      refine k_getf C d_Graph_add_21 hin_Graph rfl 1 (by decide) mw127 0 rfl rfl rfl ?_
      refine k_aload_n C d_Graph_add_24 rfl 0 rfl rfl ?_
      refine k_getf C d_Graph_add_25 hin_Graph rfl 4 (by decide) mw126 0 rfl rfl rfl ?_
      refine k_lload_n C d_Graph_add_28 rfl 1 rfl rfl ?_
      have g3 := gd1 h
      replace h := gd2 h
      refine k_last (ws' := w_Graph_add (cI := cI) (cJ := cJ) (cC := cC) (cZ := cZ) (cR := cR) a_s a_z a_sf a_sl a_sx ss_count (vp_updL ss_found ss_count.toNatClampNeg p1) ss_slots) C d_Graph_add_29 1 1 rfl rfl (inB_in g3) rfl rfl ?_
      refine k_aload_n C d_Graph_add_30 rfl 0 rfl rfl ?_
      refine k_dup C d_Graph_add_31 rfl rfl ?_
      refine k_getf C d_Graph_add_32 hin_Graph rfl 4 (by decide) mw126 0 rfl rfl rfl ?_
      refine k_iconst C d_Graph_add_35 (v := (1 : Int32)) (by decide) rfl ?_
      refine k_iadd C d_Graph_add_36 rfl ?_
      refine k_putf (ws' := w_Graph_add (cI := cI) (cJ := cJ) (cC := cC) (cZ := cZ) (cR := cR) a_s a_z a_sf a_sl a_sx (ss_count + (1 : Int32)) (vp_updL ss_found ss_count.toNatClampNeg p1) ss_slots) C d_Graph_add_37 hin_Graph hty_Graph hnn_Graph rfl 4 (by decide) mw126 rfl 0 rfl rfl rfl (Nat.le_of_ble_eq_true rfl) rfl rfl ?_
      refine k_aload_n C d_Graph_add_40 rfl 0 rfl rfl ?_
      refine k_getf C d_Graph_add_41 hin_Graph rfl 3 (by decide) mw128 0 rfl rfl rfl ?_
      refine k_iload_n C d_Graph_add_44 rfl 2 rfl rfl ?_
      refine k_aload_n C d_Graph_add_45 rfl 0 rfl rfl ?_
      refine k_getf C d_Graph_add_46 hin_Graph rfl 4 (by decide) mw126 0 rfl rfl rfl ?_
      have g4 := gd1 h
      replace h := gd2 h
      refine k_iast (ws' := w_Graph_add (cI := cI) (cJ := cJ) (cC := cC) (cZ := cZ) (cR := cR) a_s a_z a_sf a_sl a_sx (ss_count + (1 : Int32)) (vp_updL ss_found ss_count.toNatClampNeg p1) (upd ss_slots p3.toNatClampNeg (ss_count + (1 : Int32)))) C d_Graph_add_49 2 0 rfl rfl (inB_in g4) rfl rfl ?_
      refine k_aload_n C d_Graph_add_50 rfl 0 rfl rfl ?_
      refine k_getf C d_Graph_add_51 hin_Graph rfl 4 (by decide) mw126 0 rfl rfl rfl ?_
      refine k_iconst C d_Graph_add_54 (v := (1 : Int32)) (by decide) rfl ?_
      refine k_isub C d_Graph_add_55 rfl ?_
      exact k_iret C d_Graph_add_56 (tr1 h (fun t => (fun (o : Option Value) (w : va_W) => o = some (.int (t.1)) ∧ w = w_Graph_add (cI := cI) (cJ := cJ) (cC := cC) (cZ := cZ) (cR := cR) a_s a_z a_sf a_sl a_sx (t.2.1) (t.2.2.1) (t.2.2.2)) (some (Value.int ((ss_count + (1 : Int32)) - (1 : Int32)))) (w_Graph_add (cI := cI) (cJ := cJ) (cC := cC) (cZ := cZ) (cR := cR) a_s a_z a_sf a_sl a_sx (ss_count + (1 : Int32)) (vp_updL ss_found ss_count.toNatClampNeg p1) (upd ss_slots p3.toNatClampNeg (ss_count + (1 : Int32))))) ⟨rfl, rfl⟩)
    · replace h := gi_f h c2
      refine k_iconst C d_Graph_add_18 (v := (-1 : Int32)) (by decide) rfl ?_
      exact k_iret C d_Graph_add_19 (tr1 h (fun t => (fun (o : Option Value) (w : va_W) => o = some (.int (t.1)) ∧ w = w_Graph_add (cI := cI) (cJ := cJ) (cC := cC) (cZ := cZ) (cR := cR) a_s a_z a_sf a_sl a_sx (t.2.1) (t.2.2.1) (t.2.2.2)) (some (Value.int (-1 : Int32))) (w_Graph_add (cI := cI) (cJ := cJ) (cC := cC) (cZ := cZ) (cR := cR) a_s a_z a_sf a_sl a_sx ss_count ss_found ss_slots)) ⟨rfl, rfl⟩)
theorem d_Graph_numberOf_0 : decode b_Graph_numberOf 0 = .ok (.lload_n 1, 1) := by decide +kernel
theorem d_Graph_numberOf_1 : decode b_Graph_numberOf 1 = .ok (.ldc2_w 57, 3) := by decide +kernel
theorem d_Graph_numberOf_4 : decode b_Graph_numberOf 4 = .ok (.lmul, 1) := by decide +kernel
theorem d_Graph_numberOf_5 : decode b_Graph_numberOf 5 = .ok (.bipush 56, 2) := by decide +kernel
theorem d_Graph_numberOf_7 : decode b_Graph_numberOf 7 = .ok (.lushr, 1) := by decide +kernel
theorem d_Graph_numberOf_8 : decode b_Graph_numberOf 8 = .ok (.l2i, 1) := by decide +kernel
theorem d_Graph_numberOf_9 : decode b_Graph_numberOf 9 = .ok (.istore 4, 2) := by decide +kernel
theorem d_Graph_numberOf_11 : decode b_Graph_numberOf 11 = .ok (.iconst 0, 1) := by decide +kernel
theorem d_Graph_numberOf_12 : decode b_Graph_numberOf 12 = .ok (.istore 5, 2) := by decide +kernel
theorem d_Graph_numberOf_14 : decode b_Graph_numberOf 14 = .ok (.iload 5, 2) := by decide +kernel
theorem d_Graph_numberOf_16 : decode b_Graph_numberOf 16 = .ok (.sipush 256, 3) := by decide +kernel
theorem d_Graph_numberOf_19 : decode b_Graph_numberOf 19 = .ok (.if_icmp .ge 68, 3) := by decide +kernel
theorem d_Graph_numberOf_22 : decode b_Graph_numberOf 22 = .ok (.aload_n 0, 1) := by decide +kernel
theorem d_Graph_numberOf_23 : decode b_Graph_numberOf 23 = .ok (.getfield 19, 3) := by decide +kernel
theorem d_Graph_numberOf_26 : decode b_Graph_numberOf 26 = .ok (.iload 4, 2) := by decide +kernel
theorem d_Graph_numberOf_28 : decode b_Graph_numberOf 28 = .ok (.iaload, 1) := by decide +kernel
theorem d_Graph_numberOf_29 : decode b_Graph_numberOf 29 = .ok (.iconst 1, 1) := by decide +kernel
theorem d_Graph_numberOf_30 : decode b_Graph_numberOf 30 = .ok (.isub, 1) := by decide +kernel
theorem d_Graph_numberOf_31 : decode b_Graph_numberOf 31 = .ok (.istore 6, 2) := by decide +kernel
theorem d_Graph_numberOf_33 : decode b_Graph_numberOf 33 = .ok (.iload 6, 2) := by decide +kernel
theorem d_Graph_numberOf_35 : decode b_Graph_numberOf 35 = .ok (.ifCond .lt 12, 3) := by decide +kernel
theorem d_Graph_numberOf_38 : decode b_Graph_numberOf 38 = .ok (.iload 6, 2) := by decide +kernel
theorem d_Graph_numberOf_40 : decode b_Graph_numberOf 40 = .ok (.aload_n 0, 1) := by decide +kernel
theorem d_Graph_numberOf_41 : decode b_Graph_numberOf 41 = .ok (.getfield 32, 3) := by decide +kernel
theorem d_Graph_numberOf_44 : decode b_Graph_numberOf 44 = .ok (.if_icmp .lt 12, 3) := by decide +kernel
theorem d_Graph_numberOf_47 : decode b_Graph_numberOf 47 = .ok (.aload_n 0, 1) := by decide +kernel
theorem d_Graph_numberOf_48 : decode b_Graph_numberOf 48 = .ok (.lload_n 1, 1) := by decide +kernel
theorem d_Graph_numberOf_49 : decode b_Graph_numberOf 49 = .ok (.iload 4, 2) := by decide +kernel
theorem d_Graph_numberOf_51 : decode b_Graph_numberOf 51 = .ok (.iload_n 3, 1) := by decide +kernel
theorem d_Graph_numberOf_52 : decode b_Graph_numberOf 52 = .ok (.invokevirtual 59, 3) := by decide +kernel
theorem d_Graph_numberOf_55 : decode b_Graph_numberOf 55 = .ok (.ireturn, 1) := by decide +kernel
theorem d_Graph_numberOf_56 : decode b_Graph_numberOf 56 = .ok (.aload_n 0, 1) := by decide +kernel
theorem d_Graph_numberOf_57 : decode b_Graph_numberOf 57 = .ok (.getfield 9, 3) := by decide +kernel
theorem d_Graph_numberOf_60 : decode b_Graph_numberOf 60 = .ok (.iload 6, 2) := by decide +kernel
theorem d_Graph_numberOf_62 : decode b_Graph_numberOf 62 = .ok (.laload, 1) := by decide +kernel
theorem d_Graph_numberOf_63 : decode b_Graph_numberOf 63 = .ok (.lload_n 1, 1) := by decide +kernel
theorem d_Graph_numberOf_64 : decode b_Graph_numberOf 64 = .ok (.lcmp, 1) := by decide +kernel
theorem d_Graph_numberOf_65 : decode b_Graph_numberOf 65 = .ok (.ifCond .ne 6, 3) := by decide +kernel
theorem d_Graph_numberOf_68 : decode b_Graph_numberOf 68 = .ok (.iload 6, 2) := by decide +kernel
theorem d_Graph_numberOf_70 : decode b_Graph_numberOf 70 = .ok (.ireturn, 1) := by decide +kernel
theorem d_Graph_numberOf_71 : decode b_Graph_numberOf 71 = .ok (.iload 4, 2) := by decide +kernel
theorem d_Graph_numberOf_73 : decode b_Graph_numberOf 73 = .ok (.iconst 1, 1) := by decide +kernel
theorem d_Graph_numberOf_74 : decode b_Graph_numberOf 74 = .ok (.iadd, 1) := by decide +kernel
theorem d_Graph_numberOf_75 : decode b_Graph_numberOf 75 = .ok (.sipush 255, 3) := by decide +kernel
theorem d_Graph_numberOf_78 : decode b_Graph_numberOf 78 = .ok (.iand, 1) := by decide +kernel
theorem d_Graph_numberOf_79 : decode b_Graph_numberOf 79 = .ok (.istore 4, 2) := by decide +kernel
theorem d_Graph_numberOf_81 : decode b_Graph_numberOf 81 = .ok (.iinc 5 1, 3) := by decide +kernel
theorem d_Graph_numberOf_84 : decode b_Graph_numberOf 84 = .ok (.goto (-70), 3) := by decide +kernel
theorem d_Graph_numberOf_87 : decode b_Graph_numberOf 87 = .ok (.iconst (-1), 1) := by decide +kernel
theorem d_Graph_numberOf_88 : decode b_Graph_numberOf 88 = .ok (.ireturn, 1) := by decide +kernel
abbrev w_Graph_numberOf {cI cJ cC cZ cR : ClassId} (a_s a_z a_sf a_sl a_sx : Nat) (ss_count : Int32) (ss_found : Nat → Int64) (ss_slots : Nat → Int32) : va_W := [(a_s, .inr (5, [.ref a_z, .ref a_sf, .ref a_sl, .ref a_sx, .int ss_count])), (a_sf, .inl (cJ, 120, .inr (.inl ss_found))), (a_sx, .inl (cI, 256, .inl ss_slots))]
def f_Graph_numberOf_L14 (ss_count : Int32) (ss_found : Nat → Int64) (ss_slots : Nat → Int32) (p1 : Int64) (kk14_0 : Int32 → Int32 → Option (Int32 × Int32 × (Nat → Int64) × (Nat → Int32))) (kk14_1 : Int32 → Int32 → Option (Int32 × Int32 × (Nat → Int64) × (Nat → Int32))) (kk14_2 : Int32 → Int32 → Int32 → Option (Int32 × Int32 × (Nat → Int64) × (Nat → Int32))) : Nat → Int32 → Int32 → Option (Int32 × Int32 × (Nat → Int64) × (Nat → Int32))
  | 0, _, _ => none
  | n_14 + 1, l5_14, l4_14 => (if (256 : Int32) ≤ l5_14 then (kk14_0 l5_14 l4_14) else (if inB l4_14 256 = true then (if ((ss_slots l4_14.toNatClampNeg) - (1 : Int32)) < 0 then (kk14_1 l5_14 l4_14) else (if ((ss_slots l4_14.toNatClampNeg) - (1 : Int32)) < ss_count then (if inB ((ss_slots l4_14.toNatClampNeg) - (1 : Int32)) 120 = true then (if (lg_cmp (ss_found ((ss_slots l4_14.toNatClampNeg) - (1 : Int32)).toNatClampNeg) p1) = 0 then (kk14_2 l5_14 l4_14 ((ss_slots l4_14.toNatClampNeg) - (1 : Int32))) else (f_Graph_numberOf_L14 ss_count ss_found ss_slots p1 kk14_0 kk14_1 kk14_2 n_14 (l5_14 + 1) ((l4_14 + (1 : Int32)) &&& (255 : Int32)))) else none) else (kk14_1 l5_14 l4_14))) else none))
theorem f_Graph_numberOf_L14_s (ss_count : Int32) (ss_found : Nat → Int64) (ss_slots : Nat → Int32) (p1 : Int64) (kk14_0 : Int32 → Int32 → Option (Int32 × Int32 × (Nat → Int64) × (Nat → Int32))) (kk14_1 : Int32 → Int32 → Option (Int32 × Int32 × (Nat → Int64) × (Nat → Int32))) (kk14_2 : Int32 → Int32 → Int32 → Option (Int32 × Int32 × (Nat → Int64) × (Nat → Int32))) (n_14 : Nat) (l5_14 : Int32) (l4_14 : Int32) : f_Graph_numberOf_L14 ss_count ss_found ss_slots p1 kk14_0 kk14_1 kk14_2 (n_14 + 1) l5_14 l4_14 = (if (256 : Int32) ≤ l5_14 then (kk14_0 l5_14 l4_14) else (if inB l4_14 256 = true then (if ((ss_slots l4_14.toNatClampNeg) - (1 : Int32)) < 0 then (kk14_1 l5_14 l4_14) else (if ((ss_slots l4_14.toNatClampNeg) - (1 : Int32)) < ss_count then (if inB ((ss_slots l4_14.toNatClampNeg) - (1 : Int32)) 120 = true then (if (lg_cmp (ss_found ((ss_slots l4_14.toNatClampNeg) - (1 : Int32)).toNatClampNeg) p1) = 0 then (kk14_2 l5_14 l4_14 ((ss_slots l4_14.toNatClampNeg) - (1 : Int32))) else (f_Graph_numberOf_L14 ss_count ss_found ss_slots p1 kk14_0 kk14_1 kk14_2 n_14 (l5_14 + 1) ((l4_14 + (1 : Int32)) &&& (255 : Int32)))) else none) else (kk14_1 l5_14 l4_14))) else none)) := rfl
def f_Graph_numberOf (fu : Nat) (p1 : Int64) (p3 : Int32) (ss_count : Int32) (ss_found : Nat → Int64) (ss_slots : Nat → Int32) : Option (Int32 × Int32 × (Nat → Int64) × (Nat → Int32)) := (f_Graph_numberOf_L14 ss_count ss_found ss_slots p1 (fun l5_14 l4_14 => some ((-1 : Int32), ss_count, ss_found, ss_slots)) (fun l5_14 l4_14 => (Option.bind (f_Graph_add p1 l4_14 p3 ss_count ss_found ss_slots) fun (r7, yss_count_8, yss_found_9, yss_slots_10) => some (r7, yss_count_8, yss_found_9, yss_slots_10))) (fun l5_14 l4_14 l6_x14 => some (l6_x14, ss_count, ss_found, ss_slots)) fu (0 : Int32) (((jlushr (p1 * (-7046029254386353131 : Int64)) (56 : Int32))).toInt32))
set_option maxRecDepth 100000 in
set_option maxHeartbeats 4000000 in
theorem c_Graph_numberOf {l : Launch} {D : va_G} {cI cJ cC cZ cR : ClassId} (fu : Nat) (a_s a_z a_sf a_sl a_sx : Nat)   (ss_count : Int32) (ss_found : Nat → Int64) (ss_slots : Nat → Int32) (p1 : Int64) (p3 : Int32) (o_r : Int32) (o_ss_count : Int32) (o_ss_found : Nat → Int64) (o_ss_slots : Nat → Int32) (h : f_Graph_numberOf fu p1 p3 ss_count ss_found ss_slots = some (o_r, o_ss_count, o_ss_found, o_ss_slots)) : GM l D (tysL cI cJ cC cZ cR) y_Graph_numberOf b_Graph_numberOf 7 (some (.int)) { frames := 1, cells := 0, slots := 0, locals := 24 } [.ref a_s, .long p1, .int p3] (w_Graph_numberOf (cI := cI) (cJ := cJ) (cC := cC) (cZ := cZ) (cR := cR) a_s a_z a_sf a_sl a_sx ss_count ss_found ss_slots) (fun (o : Option Value) (w : va_W) => o = some (.int o_r) ∧ w = w_Graph_numberOf (cI := cI) (cJ := cJ) (cC := cC) (cZ := cZ) (cR := cR) a_s a_z a_sf a_sl a_sx o_ss_count o_ss_found o_ss_slots) := by
  refine GM.of (by decide) (Nat.le_of_ble_eq_true rfl) (lv := [(0, .ref a_s), (1, .long p1), (3, .int p3)]) rfl ?_
  intro X hX C
  subst hX
  refine k_lload_n C d_Graph_numberOf_0 rfl 1 rfl rfl ?_
  refine k_ldc2 C d_Graph_numberOf_1 (v := (-7046029254386353131 : Int64)) mw129 rfl ?_
  refine k_lmul C d_Graph_numberOf_4 rfl ?_
  refine k_bipush C d_Graph_numberOf_5 (v := (56 : Int32)) (by decide) rfl ?_
  refine k_lushr C d_Graph_numberOf_7 rfl ?_
  refine k_l2i C d_Graph_numberOf_8 rfl ?_
  refine k_istore (lv' := [(4, .int (((jlushr (p1 * (-7046029254386353131 : Int64)) (56 : Int32))).toInt32)), (0, .ref a_s), (1, .long p1), (3, .int p3)]) C d_Graph_numberOf_9 (by decide) rfl rfl ?_
  refine k_iconst C d_Graph_numberOf_11 (v := (0 : Int32)) (by decide) rfl ?_
  refine k_istore (lv' := [(5, .int (0 : Int32)), (4, .int (((jlushr (p1 * (-7046029254386353131 : Int64)) (56 : Int32))).toInt32)), (0, .ref a_s), (1, .long p1), (3, .int p3)]) C d_Graph_numberOf_12 (by decide) rfl rfl ?_
  have X14_0 : ∀ (l5_14 : Int32) (l4_14 : Int32), some ((-1 : Int32), ss_count, ss_found, ss_slots) = some (o_r, o_ss_count, o_ss_found, o_ss_slots) → Wk X { frames := 1, cells := 0, slots := 0, locals := 24 } 7 D (va_A (w_Graph_numberOf (cI := cI) (cJ := cJ) (cC := cC) (cZ := cZ) (cR := cR) a_s a_z a_sf a_sl a_sx ss_count ss_found ss_slots) (xs X).heap.size) 0 0 (GE X D (w_Graph_numberOf (cI := cI) (cJ := cJ) (cC := cC) (cZ := cZ) (cR := cR) a_s a_z a_sf a_sl a_sx ss_count ss_found ss_slots) (fun (o : Option Value) (w : va_W) => o = some (.int o_r) ∧ w = w_Graph_numberOf (cI := cI) (cJ := cJ) (cC := cC) (cZ := cZ) (cR := cR) a_s a_z a_sf a_sl a_sx o_ss_count o_ss_found o_ss_slots) 0 0) (w_Graph_numberOf (cI := cI) (cJ := cJ) (cC := cC) (cZ := cZ) (cR := cR) a_s a_z a_sf a_sl a_sx ss_count ss_found ss_slots) [(5, .int l5_14), (4, .int l4_14), (0, .ref a_s), (1, .long p1), (3, .int p3)] [] 87 := by
    intro l5_14 l4_14 h
    refine k_iconst C d_Graph_numberOf_87 (v := (-1 : Int32)) (by decide) rfl ?_
    exact k_iret C d_Graph_numberOf_88 (tr1 h (fun t => (fun (o : Option Value) (w : va_W) => o = some (.int (t.1)) ∧ w = w_Graph_numberOf (cI := cI) (cJ := cJ) (cC := cC) (cZ := cZ) (cR := cR) a_s a_z a_sf a_sl a_sx (t.2.1) (t.2.2.1) (t.2.2.2)) (some (Value.int (-1 : Int32))) (w_Graph_numberOf (cI := cI) (cJ := cJ) (cC := cC) (cZ := cZ) (cR := cR) a_s a_z a_sf a_sl a_sx ss_count ss_found ss_slots)) ⟨rfl, rfl⟩)
  have X14_1 : ∀ (l5_14 : Int32) (l4_14 : Int32), (Option.bind (f_Graph_add p1 l4_14 p3 ss_count ss_found ss_slots) fun (r7, yss_count_8, yss_found_9, yss_slots_10) => some (r7, yss_count_8, yss_found_9, yss_slots_10)) = some (o_r, o_ss_count, o_ss_found, o_ss_slots) → Wk X { frames := 1, cells := 0, slots := 0, locals := 24 } 7 D (va_A (w_Graph_numberOf (cI := cI) (cJ := cJ) (cC := cC) (cZ := cZ) (cR := cR) a_s a_z a_sf a_sl a_sx ss_count ss_found ss_slots) (xs X).heap.size) 0 0 (GE X D (w_Graph_numberOf (cI := cI) (cJ := cJ) (cC := cC) (cZ := cZ) (cR := cR) a_s a_z a_sf a_sl a_sx ss_count ss_found ss_slots) (fun (o : Option Value) (w : va_W) => o = some (.int o_r) ∧ w = w_Graph_numberOf (cI := cI) (cJ := cJ) (cC := cC) (cZ := cZ) (cR := cR) a_s a_z a_sf a_sl a_sx o_ss_count o_ss_found o_ss_slots) 0 0) (w_Graph_numberOf (cI := cI) (cJ := cJ) (cC := cC) (cZ := cZ) (cR := cR) a_s a_z a_sf a_sl a_sx ss_count ss_found ss_slots) [(5, .int l5_14), (4, .int l4_14), (0, .ref a_s), (1, .long p1), (3, .int p3)] [] 47 := by
    intro l5_14 l4_14 h
    refine k_aload_n C d_Graph_numberOf_47 rfl 2 rfl rfl ?_
    refine k_lload_n C d_Graph_numberOf_48 rfl 3 rfl rfl ?_
    refine k_iload C d_Graph_numberOf_49 1 rfl rfl ?_
    refine k_iload_n C d_Graph_numberOf_51 rfl 4 rfl rfl ?_
    obtain ⟨⟨r7, yss_count_8, yss_found_9, yss_slots_10⟩, hc11, h⟩ := bd h
    refine k_callVd (As := [.long p1, .int l4_14, .int p3]) (st := []) (st' := [.int r7]) (wn := w_Graph_numberOf (cI := cI) (cJ := cJ) (cC := cC) (cZ := cZ) (cR := cR) a_s a_z a_sf a_sl a_sx yss_count_8 yss_found_9 yss_slots_10) C d_Graph_numberOf_52 (c_Graph_add fu a_s a_z a_sf a_sl a_sx ss_count ss_found ss_slots p1 l4_14 p3 r7 yss_count_8 yss_found_9 yss_slots_10 hc11) co_Graph_add cov_Graph_add mw130 0 rfl rfl (by decide) (by decide) (Nat.le_of_ble_eq_true rfl) rfl [0, 1, 2] [] [0, 1, 2] rfl (by decide +kernel) rfl (by decide +kernel) (by decide +kernel) rfl (by decide +kernel) rfl rfl ?_
    exact k_iret C d_Graph_numberOf_55 (tr1 h (fun t => (fun (o : Option Value) (w : va_W) => o = some (.int (t.1)) ∧ w = w_Graph_numberOf (cI := cI) (cJ := cJ) (cC := cC) (cZ := cZ) (cR := cR) a_s a_z a_sf a_sl a_sx (t.2.1) (t.2.2.1) (t.2.2.2)) (some (Value.int r7)) (w_Graph_numberOf (cI := cI) (cJ := cJ) (cC := cC) (cZ := cZ) (cR := cR) a_s a_z a_sf a_sl a_sx yss_count_8 yss_found_9 yss_slots_10)) ⟨rfl, rfl⟩)
  have X14_2 : ∀ (l5_14 : Int32) (l4_14 : Int32) (l6_x14 : Int32), some (l6_x14, ss_count, ss_found, ss_slots) = some (o_r, o_ss_count, o_ss_found, o_ss_slots) → Wk X { frames := 1, cells := 0, slots := 0, locals := 24 } 7 D (va_A (w_Graph_numberOf (cI := cI) (cJ := cJ) (cC := cC) (cZ := cZ) (cR := cR) a_s a_z a_sf a_sl a_sx ss_count ss_found ss_slots) (xs X).heap.size) 0 0 (GE X D (w_Graph_numberOf (cI := cI) (cJ := cJ) (cC := cC) (cZ := cZ) (cR := cR) a_s a_z a_sf a_sl a_sx ss_count ss_found ss_slots) (fun (o : Option Value) (w : va_W) => o = some (.int o_r) ∧ w = w_Graph_numberOf (cI := cI) (cJ := cJ) (cC := cC) (cZ := cZ) (cR := cR) a_s a_z a_sf a_sl a_sx o_ss_count o_ss_found o_ss_slots) 0 0) (w_Graph_numberOf (cI := cI) (cJ := cJ) (cC := cC) (cZ := cZ) (cR := cR) a_s a_z a_sf a_sl a_sx ss_count ss_found ss_slots) [(5, .int l5_14), (4, .int l4_14), (0, .ref a_s), (1, .long p1), (3, .int p3), (6, .int l6_x14)] [] 68 := by
    intro l5_14 l4_14 l6_x14 h
    refine k_iload C d_Graph_numberOf_68 5 rfl rfl ?_
    exact k_iret C d_Graph_numberOf_70 (tr1 h (fun t => (fun (o : Option Value) (w : va_W) => o = some (.int (t.1)) ∧ w = w_Graph_numberOf (cI := cI) (cJ := cJ) (cC := cC) (cZ := cZ) (cR := cR) a_s a_z a_sf a_sl a_sx (t.2.1) (t.2.2.1) (t.2.2.2)) (some (Value.int l6_x14)) (w_Graph_numberOf (cI := cI) (cJ := cJ) (cC := cC) (cZ := cZ) (cR := cR) a_s a_z a_sf a_sl a_sx ss_count ss_found ss_slots)) ⟨rfl, rfl⟩)
  have L14 : ∀ (kk14_0 : Int32 → Int32 → Option (Int32 × Int32 × (Nat → Int64) × (Nat → Int32))) (kk14_1 : Int32 → Int32 → Option (Int32 × Int32 × (Nat → Int64) × (Nat → Int32))) (kk14_2 : Int32 → Int32 → Int32 → Option (Int32 × Int32 × (Nat → Int64) × (Nat → Int32))) (hX14_0 : ∀ (l5_14 : Int32) (l4_14 : Int32), kk14_0 l5_14 l4_14 = some (o_r, o_ss_count, o_ss_found, o_ss_slots) → Wk X { frames := 1, cells := 0, slots := 0, locals := 24 } 7 D (va_A (w_Graph_numberOf (cI := cI) (cJ := cJ) (cC := cC) (cZ := cZ) (cR := cR) a_s a_z a_sf a_sl a_sx ss_count ss_found ss_slots) (xs X).heap.size) 0 0 (GE X D (w_Graph_numberOf (cI := cI) (cJ := cJ) (cC := cC) (cZ := cZ) (cR := cR) a_s a_z a_sf a_sl a_sx ss_count ss_found ss_slots) (fun (o : Option Value) (w : va_W) => o = some (.int o_r) ∧ w = w_Graph_numberOf (cI := cI) (cJ := cJ) (cC := cC) (cZ := cZ) (cR := cR) a_s a_z a_sf a_sl a_sx o_ss_count o_ss_found o_ss_slots) 0 0) (w_Graph_numberOf (cI := cI) (cJ := cJ) (cC := cC) (cZ := cZ) (cR := cR) a_s a_z a_sf a_sl a_sx ss_count ss_found ss_slots) [(5, .int l5_14), (4, .int l4_14), (0, .ref a_s), (1, .long p1), (3, .int p3)] [] 87) (hX14_1 : ∀ (l5_14 : Int32) (l4_14 : Int32), kk14_1 l5_14 l4_14 = some (o_r, o_ss_count, o_ss_found, o_ss_slots) → Wk X { frames := 1, cells := 0, slots := 0, locals := 24 } 7 D (va_A (w_Graph_numberOf (cI := cI) (cJ := cJ) (cC := cC) (cZ := cZ) (cR := cR) a_s a_z a_sf a_sl a_sx ss_count ss_found ss_slots) (xs X).heap.size) 0 0 (GE X D (w_Graph_numberOf (cI := cI) (cJ := cJ) (cC := cC) (cZ := cZ) (cR := cR) a_s a_z a_sf a_sl a_sx ss_count ss_found ss_slots) (fun (o : Option Value) (w : va_W) => o = some (.int o_r) ∧ w = w_Graph_numberOf (cI := cI) (cJ := cJ) (cC := cC) (cZ := cZ) (cR := cR) a_s a_z a_sf a_sl a_sx o_ss_count o_ss_found o_ss_slots) 0 0) (w_Graph_numberOf (cI := cI) (cJ := cJ) (cC := cC) (cZ := cZ) (cR := cR) a_s a_z a_sf a_sl a_sx ss_count ss_found ss_slots) [(5, .int l5_14), (4, .int l4_14), (0, .ref a_s), (1, .long p1), (3, .int p3)] [] 47) (hX14_2 : ∀ (l5_14 : Int32) (l4_14 : Int32) (l6_x14 : Int32), kk14_2 l5_14 l4_14 l6_x14 = some (o_r, o_ss_count, o_ss_found, o_ss_slots) → Wk X { frames := 1, cells := 0, slots := 0, locals := 24 } 7 D (va_A (w_Graph_numberOf (cI := cI) (cJ := cJ) (cC := cC) (cZ := cZ) (cR := cR) a_s a_z a_sf a_sl a_sx ss_count ss_found ss_slots) (xs X).heap.size) 0 0 (GE X D (w_Graph_numberOf (cI := cI) (cJ := cJ) (cC := cC) (cZ := cZ) (cR := cR) a_s a_z a_sf a_sl a_sx ss_count ss_found ss_slots) (fun (o : Option Value) (w : va_W) => o = some (.int o_r) ∧ w = w_Graph_numberOf (cI := cI) (cJ := cJ) (cC := cC) (cZ := cZ) (cR := cR) a_s a_z a_sf a_sl a_sx o_ss_count o_ss_found o_ss_slots) 0 0) (w_Graph_numberOf (cI := cI) (cJ := cJ) (cC := cC) (cZ := cZ) (cR := cR) a_s a_z a_sf a_sl a_sx ss_count ss_found ss_slots) [(5, .int l5_14), (4, .int l4_14), (0, .ref a_s), (1, .long p1), (3, .int p3), (6, .int l6_x14)] [] 68) (n_14 : Nat) (l5_14 : Int32) (l4_14 : Int32), f_Graph_numberOf_L14 ss_count ss_found ss_slots p1 kk14_0 kk14_1 kk14_2 n_14 l5_14 l4_14 = some (o_r, o_ss_count, o_ss_found, o_ss_slots) → Wk X { frames := 1, cells := 0, slots := 0, locals := 24 } 7 D (va_A (w_Graph_numberOf (cI := cI) (cJ := cJ) (cC := cC) (cZ := cZ) (cR := cR) a_s a_z a_sf a_sl a_sx ss_count ss_found ss_slots) (xs X).heap.size) 0 0 (GE X D (w_Graph_numberOf (cI := cI) (cJ := cJ) (cC := cC) (cZ := cZ) (cR := cR) a_s a_z a_sf a_sl a_sx ss_count ss_found ss_slots) (fun (o : Option Value) (w : va_W) => o = some (.int o_r) ∧ w = w_Graph_numberOf (cI := cI) (cJ := cJ) (cC := cC) (cZ := cZ) (cR := cR) a_s a_z a_sf a_sl a_sx o_ss_count o_ss_found o_ss_slots) 0 0) (w_Graph_numberOf (cI := cI) (cJ := cJ) (cC := cC) (cZ := cZ) (cR := cR) a_s a_z a_sf a_sl a_sx ss_count ss_found ss_slots) [(5, .int l5_14), (4, .int l4_14), (0, .ref a_s), (1, .long p1), (3, .int p3)] [] 14 := by
    intro kk14_0 kk14_1 kk14_2 hX14_0 hX14_1 hX14_2 n_14
    induction n_14 with
    | zero =>
      intro l5_14 l4_14 h
      exact nS h
    | succ n_14 ih14 =>
      intro l5_14 l4_14 h
      replace h := (f_Graph_numberOf_L14_s _ _ _ _ _ _ _ _ _ _).symm.trans h
      refine k_iload C d_Graph_numberOf_14 0 rfl rfl ?_
      refine k_sipush C d_Graph_numberOf_16 (v := (256 : Int32)) (by decide) rfl ?_
      refine k_icmp_ge (tgt := 87) C d_Graph_numberOf_19 (by decide) rfl (fun c1 => ?_) (fun c1 => ?_)
      · replace h := gi_t h c1
        exact hX14_0 l5_14 l4_14 h
      · replace h := gi_f h c1
        refine k_aload_n C d_Graph_numberOf_22 rfl 2 rfl rfl ?_
        refine k_getf C d_Graph_numberOf_23 hin_Graph rfl 3 (by decide) mw128 0 rfl rfl rfl ?_
        refine k_iload C d_Graph_numberOf_26 1 rfl rfl ?_
        have g2 := gd1 h
        replace h := gd2 h
        refine k_iald C d_Graph_numberOf_28 2 0 rfl rfl (inB_in g2) rfl ?_
        refine k_iconst C d_Graph_numberOf_29 (v := (1 : Int32)) (by decide) rfl ?_
        refine k_isub C d_Graph_numberOf_30 rfl ?_
        refine k_istore (lv' := [(6, .int ((ss_slots l4_14.toNatClampNeg) - (1 : Int32))), (5, .int l5_14), (4, .int l4_14), (0, .ref a_s), (1, .long p1), (3, .int p3)]) C d_Graph_numberOf_31 (by decide) rfl rfl ?_
        refine k_iload C d_Graph_numberOf_33 0 rfl rfl ?_
        refine k_if_lt (tgt := 47) C d_Graph_numberOf_35 (by decide) rfl (fun c3 => ?_) (fun c3 => ?_)
        · replace h := gi_t h c3
          refine k_lpk [1, 2, 3, 4, 5] rfl ?_
          exact hX14_1 l5_14 l4_14 h
        · replace h := gi_f h c3
          refine k_iload C d_Graph_numberOf_38 0 rfl rfl ?_
          refine k_aload_n C d_Graph_numberOf_40 rfl 3 rfl rfl ?_
          refine k_getf C d_Graph_numberOf_41 hin_Graph rfl 4 (by decide) mw126 0 rfl rfl rfl ?_
          refine k_icmp_lt (tgt := 56) C d_Graph_numberOf_44 (by decide) rfl (fun c4 => ?_) (fun c4 => ?_)
          · replace h := gi_t h c4
            refine k_aload_n C d_Graph_numberOf_56 rfl 3 rfl rfl ?_
            refine k_getf C d_Graph_numberOf_57 hin_Graph rfl 1 (by decide) mw127 0 rfl rfl rfl ?_
            refine k_iload C d_Graph_numberOf_60 0 rfl rfl ?_
            have g5 := gd1 h
            replace h := gd2 h
            refine k_lald C d_Graph_numberOf_62 1 1 rfl rfl (inB_in g5) rfl ?_
            refine k_lload_n C d_Graph_numberOf_63 rfl 4 rfl rfl ?_
            refine k_lcmp C d_Graph_numberOf_64 rfl ?_
            refine k_if_ne (tgt := 71) C d_Graph_numberOf_65 (by decide) rfl (fun c6 => ?_) (fun c6 => ?_)
            · replace h := gi_f h c6
              refine k_iload C d_Graph_numberOf_71 2 rfl rfl ?_
              refine k_iconst C d_Graph_numberOf_73 (v := (1 : Int32)) (by decide) rfl ?_
              refine k_iadd C d_Graph_numberOf_74 rfl ?_
              refine k_sipush C d_Graph_numberOf_75 (v := (255 : Int32)) (by decide) rfl ?_
              refine k_iand C d_Graph_numberOf_78 rfl ?_
              refine k_istore (lv' := [(4, .int ((l4_14 + (1 : Int32)) &&& (255 : Int32))), (6, .int ((ss_slots l4_14.toNatClampNeg) - (1 : Int32))), (5, .int l5_14), (0, .ref a_s), (1, .long p1), (3, .int p3)]) C d_Graph_numberOf_79 (by decide) rfl rfl ?_
              refine k_iinc (lv' := [(5, .int (l5_14 + 1)), (4, .int ((l4_14 + (1 : Int32)) &&& (255 : Int32))), (6, .int ((ss_slots l4_14.toNatClampNeg) - (1 : Int32))), (0, .ref a_s), (1, .long p1), (3, .int p3)]) C d_Graph_numberOf_81 2 rfl rfl (by decide) rfl rfl ?_
              refine k_goto (tgt := 14) C d_Graph_numberOf_84 (by decide) ?_
              refine k_lpk [0, 1, 3, 4, 5] rfl ?_
              exact ih14 (l5_14 + 1) ((l4_14 + (1 : Int32)) &&& (255 : Int32)) h
            · replace h := gi_t h c6
              refine k_lpk [1, 2, 3, 4, 5, 0] rfl ?_
              exact hX14_2 l5_14 l4_14 ((ss_slots l4_14.toNatClampNeg) - (1 : Int32)) h
          · replace h := gi_f h c4
            refine k_lpk [1, 2, 3, 4, 5] rfl ?_
            exact hX14_1 l5_14 l4_14 h
  exact L14 (fun l5_14 l4_14 => some ((-1 : Int32), ss_count, ss_found, ss_slots)) (fun l5_14 l4_14 => (Option.bind (f_Graph_add p1 l4_14 p3 ss_count ss_found ss_slots) fun (r7, yss_count_8, yss_found_9, yss_slots_10) => some (r7, yss_count_8, yss_found_9, yss_slots_10))) (fun l5_14 l4_14 l6_x14 => some (l6_x14, ss_count, ss_found, ss_slots)) X14_0 X14_1 X14_2 fu (0 : Int32) (((jlushr (p1 * (-7046029254386353131 : Int64)) (56 : Int32))).toInt32) h
theorem d_Graph_exploreFrom_0 : decode b_Graph_exploreFrom 0 = .ok (.aload_n 0, 1) := by decide +kernel
theorem d_Graph_exploreFrom_1 : decode b_Graph_exploreFrom 1 = .ok (.getfield 22, 3) := by decide +kernel
theorem d_Graph_exploreFrom_4 : decode b_Graph_exploreFrom 4 = .ok (.aload_n 0, 1) := by decide +kernel
theorem d_Graph_exploreFrom_5 : decode b_Graph_exploreFrom 5 = .ok (.getfield 9, 3) := by decide +kernel
theorem d_Graph_exploreFrom_8 : decode b_Graph_exploreFrom 8 = .ok (.iload_n 1, 1) := by decide +kernel
theorem d_Graph_exploreFrom_9 : decode b_Graph_exploreFrom 9 = .ok (.laload, 1) := by decide +kernel
theorem d_Graph_exploreFrom_10 : decode b_Graph_exploreFrom 10 = .ok (.invokevirtual 44, 3) := by decide +kernel
theorem d_Graph_exploreFrom_13 : decode b_Graph_exploreFrom 13 = .ok (.lstore_n 3, 1) := by decide +kernel
theorem d_Graph_exploreFrom_14 : decode b_Graph_exploreFrom 14 = .ok (.iconst 0, 1) := by decide +kernel
theorem d_Graph_exploreFrom_15 : decode b_Graph_exploreFrom 15 = .ok (.istore 5, 2) := by decide +kernel
theorem d_Graph_exploreFrom_17 : decode b_Graph_exploreFrom 17 = .ok (.iload 5, 2) := by decide +kernel
theorem d_Graph_exploreFrom_19 : decode b_Graph_exploreFrom 19 = .ok (.aload_n 0, 1) := by decide +kernel
theorem d_Graph_exploreFrom_20 : decode b_Graph_exploreFrom 20 = .ok (.getfield 22, 3) := by decide +kernel
theorem d_Graph_exploreFrom_23 : decode b_Graph_exploreFrom 23 = .ok (.getfield 50, 3) := by decide +kernel
theorem d_Graph_exploreFrom_26 : decode b_Graph_exploreFrom 26 = .ok (.if_icmp .ge 55, 3) := by decide +kernel
theorem d_Graph_exploreFrom_29 : decode b_Graph_exploreFrom 29 = .ok (.iload 5, 2) := by decide +kernel
theorem d_Graph_exploreFrom_31 : decode b_Graph_exploreFrom 31 = .ok (.bipush 95, 2) := by decide +kernel
theorem d_Graph_exploreFrom_33 : decode b_Graph_exploreFrom 33 = .ok (.if_icmp .ge 48, 3) := by decide +kernel
theorem d_Graph_exploreFrom_36 : decode b_Graph_exploreFrom 36 = .ok (.aload_n 0, 1) := by decide +kernel
theorem d_Graph_exploreFrom_37 : decode b_Graph_exploreFrom 37 = .ok (.lload_n 3, 1) := by decide +kernel
theorem d_Graph_exploreFrom_38 : decode b_Graph_exploreFrom 38 = .ok (.aload_n 0, 1) := by decide +kernel
theorem d_Graph_exploreFrom_39 : decode b_Graph_exploreFrom 39 = .ok (.getfield 22, 3) := by decide +kernel
theorem d_Graph_exploreFrom_42 : decode b_Graph_exploreFrom 42 = .ok (.iload 5, 2) := by decide +kernel
theorem d_Graph_exploreFrom_44 : decode b_Graph_exploreFrom 44 = .ok (.invokevirtual 53, 3) := by decide +kernel
theorem d_Graph_exploreFrom_47 : decode b_Graph_exploreFrom 47 = .ok (.land, 1) := by decide +kernel
theorem d_Graph_exploreFrom_48 : decode b_Graph_exploreFrom 48 = .ok (.iload_n 2, 1) := by decide +kernel
theorem d_Graph_exploreFrom_49 : decode b_Graph_exploreFrom 49 = .ok (.invokevirtual 36, 3) := by decide +kernel
theorem d_Graph_exploreFrom_52 : decode b_Graph_exploreFrom 52 = .ok (.istore 6, 2) := by decide +kernel
theorem d_Graph_exploreFrom_54 : decode b_Graph_exploreFrom 54 = .ok (.iload 6, 2) := by decide +kernel
theorem d_Graph_exploreFrom_56 : decode b_Graph_exploreFrom 56 = .ok (.ifCond .ge 5, 3) := by decide +kernel
theorem d_Graph_exploreFrom_59 : decode b_Graph_exploreFrom 59 = .ok (.iconst 0, 1) := by decide +kernel
theorem d_Graph_exploreFrom_60 : decode b_Graph_exploreFrom 60 = .ok (.ireturn, 1) := by decide +kernel
theorem d_Graph_exploreFrom_61 : decode b_Graph_exploreFrom 61 = .ok (.aload_n 0, 1) := by decide +kernel
theorem d_Graph_exploreFrom_62 : decode b_Graph_exploreFrom 62 = .ok (.getfield 15, 3) := by decide +kernel
theorem d_Graph_exploreFrom_65 : decode b_Graph_exploreFrom 65 = .ok (.iload_n 1, 1) := by decide +kernel
theorem d_Graph_exploreFrom_66 : decode b_Graph_exploreFrom 66 = .ok (.bipush 95, 2) := by decide +kernel
theorem d_Graph_exploreFrom_68 : decode b_Graph_exploreFrom 68 = .ok (.imul, 1) := by decide +kernel
theorem d_Graph_exploreFrom_69 : decode b_Graph_exploreFrom 69 = .ok (.iload 5, 2) := by decide +kernel
theorem d_Graph_exploreFrom_71 : decode b_Graph_exploreFrom 71 = .ok (.iadd, 1) := by decide +kernel
theorem d_Graph_exploreFrom_72 : decode b_Graph_exploreFrom 72 = .ok (.iload 6, 2) := by decide +kernel
theorem d_Graph_exploreFrom_74 : decode b_Graph_exploreFrom 74 = .ok (.iastore, 1) := by decide +kernel
theorem d_Graph_exploreFrom_75 : decode b_Graph_exploreFrom 75 = .ok (.iinc 5 1, 3) := by decide +kernel
theorem d_Graph_exploreFrom_78 : decode b_Graph_exploreFrom 78 = .ok (.goto (-61), 3) := by decide +kernel
theorem d_Graph_exploreFrom_81 : decode b_Graph_exploreFrom 81 = .ok (.iconst 1, 1) := by decide +kernel
theorem d_Graph_exploreFrom_82 : decode b_Graph_exploreFrom 82 = .ok (.ireturn, 1) := by decide +kernel
abbrev w_Graph_exploreFrom {cI cJ cC cZ cR : ClassId} (a_s a_z a_sf a_sl a_sx a_zb a_zr a_zc a_zq a_ze a_za a_zd : Nat) (ss_count : Int32) (ss_found : Nat → Int64) (ss_leads : Nat → Int32) (ss_slots : Nat → Int32) (zz_pieceCount : Int32) (zz_ruleCount : Int32) (zz_columnCount : Int32) (zz_behind : Nat → Int64) (zz_readersOfColumn : Nat → Int64) : va_W := [(a_s, .inr (5, [.ref a_z, .ref a_sf, .ref a_sl, .ref a_sx, .int ss_count])), (a_sf, .inl (cJ, 120, .inr (.inl ss_found))), (a_sl, .inl (cI, 11400, .inl ss_leads)), (a_sx, .inl (cI, 256, .inl ss_slots)), (a_z, .inr (4, [.ref a_zb, .ref a_zr, .ref a_zc, .ref a_zq, .ref a_ze, .ref a_za, .ref a_zd, .int zz_pieceCount, .int zz_ruleCount, .int zz_columnCount])), (a_zb, .inl (cJ, 61, .inr (.inl zz_behind))), (a_zq, .inl (cJ, 95, .inr (.inl zz_readersOfColumn)))]
def f_Graph_exploreFrom_L17 (zz_columnCount : Int32) (zz_readersOfColumn : Nat → Int64) (p1 : Int32) (p2 : Int32) (r2 : Int64) (fu : Nat) (kk17_0 : Int32 → Int32 → (Nat → Int64) → (Nat → Int32) → (Nat → Int32) → Option (Int32 × Int32 × (Nat → Int64) × (Nat → Int32) × (Nat → Int32))) (kk17_1 : Int32 → Int32 → (Nat → Int64) → (Nat → Int32) → (Nat → Int32) → Option (Int32 × Int32 × (Nat → Int64) × (Nat → Int32) × (Nat → Int32))) : Nat → Int32 → Int32 → (Nat → Int64) → (Nat → Int32) → (Nat → Int32) → Option (Int32 × Int32 × (Nat → Int64) × (Nat → Int32) × (Nat → Int32))
  | 0, _, _, _, _, _ => none
  | n_17 + 1, l5_17, ss_count_17, ss_found_17, ss_leads_17, ss_slots_17 => (if zz_columnCount ≤ l5_17 then (kk17_0 l5_17 ss_count_17 ss_found_17 ss_leads_17 ss_slots_17) else (if (95 : Int32) ≤ l5_17 then (kk17_0 l5_17 ss_count_17 ss_found_17 ss_leads_17 ss_slots_17) else (Option.bind (f_Union_readersOfColumn l5_17 zz_columnCount zz_readersOfColumn) fun r6 => (Option.bind (f_Graph_numberOf fu (r2 &&& r6) p2 ss_count_17 ss_found_17 ss_slots_17) fun (r8, yss_count_9, yss_found_10, yss_slots_11) => (if 0 ≤ r8 then (if inB ((p1 * (95 : Int32)) + l5_17) 11400 = true then (f_Graph_exploreFrom_L17 zz_columnCount zz_readersOfColumn p1 p2 r2 fu kk17_0 kk17_1 n_17 (l5_17 + 1) yss_count_9 yss_found_10 (upd ss_leads_17 ((p1 * (95 : Int32)) + l5_17).toNatClampNeg r8) yss_slots_11) else none) else (kk17_1 l5_17 yss_count_9 yss_found_10 ss_leads_17 yss_slots_11))))))
theorem f_Graph_exploreFrom_L17_s (zz_columnCount : Int32) (zz_readersOfColumn : Nat → Int64) (p1 : Int32) (p2 : Int32) (r2 : Int64) (fu : Nat) (kk17_0 : Int32 → Int32 → (Nat → Int64) → (Nat → Int32) → (Nat → Int32) → Option (Int32 × Int32 × (Nat → Int64) × (Nat → Int32) × (Nat → Int32))) (kk17_1 : Int32 → Int32 → (Nat → Int64) → (Nat → Int32) → (Nat → Int32) → Option (Int32 × Int32 × (Nat → Int64) × (Nat → Int32) × (Nat → Int32))) (n_17 : Nat) (l5_17 : Int32) (ss_count_17 : Int32) (ss_found_17 : Nat → Int64) (ss_leads_17 : Nat → Int32) (ss_slots_17 : Nat → Int32) : f_Graph_exploreFrom_L17 zz_columnCount zz_readersOfColumn p1 p2 r2 fu kk17_0 kk17_1 (n_17 + 1) l5_17 ss_count_17 ss_found_17 ss_leads_17 ss_slots_17 = (if zz_columnCount ≤ l5_17 then (kk17_0 l5_17 ss_count_17 ss_found_17 ss_leads_17 ss_slots_17) else (if (95 : Int32) ≤ l5_17 then (kk17_0 l5_17 ss_count_17 ss_found_17 ss_leads_17 ss_slots_17) else (Option.bind (f_Union_readersOfColumn l5_17 zz_columnCount zz_readersOfColumn) fun r6 => (Option.bind (f_Graph_numberOf fu (r2 &&& r6) p2 ss_count_17 ss_found_17 ss_slots_17) fun (r8, yss_count_9, yss_found_10, yss_slots_11) => (if 0 ≤ r8 then (if inB ((p1 * (95 : Int32)) + l5_17) 11400 = true then (f_Graph_exploreFrom_L17 zz_columnCount zz_readersOfColumn p1 p2 r2 fu kk17_0 kk17_1 n_17 (l5_17 + 1) yss_count_9 yss_found_10 (upd ss_leads_17 ((p1 * (95 : Int32)) + l5_17).toNatClampNeg r8) yss_slots_11) else none) else (kk17_1 l5_17 yss_count_9 yss_found_10 ss_leads_17 yss_slots_11)))))) := rfl
def f_Graph_exploreFrom (fu : Nat) (p1 : Int32) (p2 : Int32) (ss_count : Int32) (ss_found : Nat → Int64) (ss_leads : Nat → Int32) (ss_slots : Nat → Int32) (zz_columnCount : Int32) (zz_behind : Nat → Int64) (zz_readersOfColumn : Nat → Int64) : Option (Int32 × Int32 × (Nat → Int64) × (Nat → Int32) × (Nat → Int32)) := (if inB p1 120 = true then (Option.bind (f_Union_behindAll fu (ss_found p1.toNatClampNeg) zz_behind) fun r2 => (f_Graph_exploreFrom_L17 zz_columnCount zz_readersOfColumn p1 p2 r2 fu (fun l5_17 ss_count_17 ss_found_17 ss_leads_17 ss_slots_17 => (if ((1 : Int32) = 0 ∨ (1 : Int32) = 1) then some ((1 : Int32), ss_count_17, ss_found_17, ss_leads_17, ss_slots_17) else none)) (fun l5_17 ss_count_17 ss_found_17 ss_leads_17 ss_slots_17 => (if ((0 : Int32) = 0 ∨ (0 : Int32) = 1) then some ((0 : Int32), ss_count_17, ss_found_17, ss_leads_17, ss_slots_17) else none)) fu (0 : Int32) ss_count ss_found ss_leads ss_slots)) else none)
set_option maxRecDepth 100000 in
set_option maxHeartbeats 4000000 in
theorem c_Graph_exploreFrom {l : Launch} {D : va_G} {cI cJ cC cZ cR : ClassId} (fu : Nat) (a_s a_z a_sf a_sl a_sx a_zb a_zr a_zc a_zq a_ze a_za a_zd : Nat)   (ss_count : Int32) (ss_found : Nat → Int64) (ss_leads : Nat → Int32) (ss_slots : Nat → Int32) (zz_pieceCount : Int32) (zz_ruleCount : Int32) (zz_columnCount : Int32) (zz_behind : Nat → Int64) (zz_readersOfColumn : Nat → Int64) (p1 : Int32) (p2 : Int32) (o_r : Int32) (o_ss_count : Int32) (o_ss_found : Nat → Int64) (o_ss_leads : Nat → Int32) (o_ss_slots : Nat → Int32) (h : f_Graph_exploreFrom fu p1 p2 ss_count ss_found ss_leads ss_slots zz_columnCount zz_behind zz_readersOfColumn = some (o_r, o_ss_count, o_ss_found, o_ss_leads, o_ss_slots)) : GM l D (tysL cI cJ cC cZ cR) y_Graph_exploreFrom b_Graph_exploreFrom 7 (some (.boolean)) { frames := 2, cells := 0, slots := 0, locals := 50 } [.ref a_s, .int p1, .int p2] (w_Graph_exploreFrom (cI := cI) (cJ := cJ) (cC := cC) (cZ := cZ) (cR := cR) a_s a_z a_sf a_sl a_sx a_zb a_zr a_zc a_zq a_ze a_za a_zd ss_count ss_found ss_leads ss_slots zz_pieceCount zz_ruleCount zz_columnCount zz_behind zz_readersOfColumn) (fun (o : Option Value) (w : va_W) => o = some (.int o_r) ∧ w = w_Graph_exploreFrom (cI := cI) (cJ := cJ) (cC := cC) (cZ := cZ) (cR := cR) a_s a_z a_sf a_sl a_sx a_zb a_zr a_zc a_zq a_ze a_za a_zd o_ss_count o_ss_found o_ss_leads o_ss_slots zz_pieceCount zz_ruleCount zz_columnCount zz_behind zz_readersOfColumn) := by
  refine GM.of (by decide) (Nat.le_of_ble_eq_true rfl) (lv := [(0, .ref a_s), (1, .int p1), (2, .int p2)]) rfl ?_
  intro X hX C
  subst hX
  refine k_aload_n C d_Graph_exploreFrom_0 rfl 0 rfl rfl ?_
  refine k_getf C d_Graph_exploreFrom_1 hin_Graph rfl 0 (by decide) mw131 0 rfl rfl rfl ?_
  refine k_aload_n C d_Graph_exploreFrom_4 rfl 0 rfl rfl ?_
  refine k_getf C d_Graph_exploreFrom_5 hin_Graph rfl 1 (by decide) mw127 0 rfl rfl rfl ?_
  refine k_iload_n C d_Graph_exploreFrom_8 rfl 1 rfl rfl ?_
  have g1 := gd1 h
  replace h := gd2 h
  refine k_lald C d_Graph_exploreFrom_9 1 1 rfl rfl (inB_in g1) rfl ?_
  obtain ⟨r2, hc3, h⟩ := bd h
  refine k_callVd (As := [.long (ss_found p1.toNatClampNeg)]) (st := []) (st' := [.long r2]) (wn := w_Graph_exploreFrom (cI := cI) (cJ := cJ) (cC := cC) (cZ := cZ) (cR := cR) a_s a_z a_sf a_sl a_sx a_zb a_zr a_zc a_zq a_ze a_za a_zd ss_count ss_found ss_leads ss_slots zz_pieceCount zz_ruleCount zz_columnCount zz_behind zz_readersOfColumn) C d_Graph_exploreFrom_10 (c_Union_behindAll fu a_z a_zb a_zr a_zc a_zq a_ze a_za a_zd zz_pieceCount zz_ruleCount zz_columnCount zz_behind (ss_found p1.toNatClampNeg) r2 hc3) co_Union_behindAll cov_Union_behindAll mw134 4 rfl rfl (by decide) (by decide) (Nat.le_of_ble_eq_true rfl) rfl [4, 5] [0, 1, 2, 3, 6] [0, 1, 2, 3, 5, 6, 4] rfl (by decide +kernel) rfl (by decide +kernel) (by decide +kernel) rfl (by decide +kernel) rfl rfl ?_
  refine k_lstore_n (lv' := [(3, .long r2), (0, .ref a_s), (1, .int p1), (2, .int p2)]) C d_Graph_exploreFrom_13 rfl (by decide) rfl rfl ?_
  refine k_iconst C d_Graph_exploreFrom_14 (v := (0 : Int32)) (by decide) rfl ?_
  refine k_istore (lv' := [(5, .int (0 : Int32)), (3, .long r2), (0, .ref a_s), (1, .int p1), (2, .int p2)]) C d_Graph_exploreFrom_15 (by decide) rfl rfl ?_
  have X17_0 : ∀ (l5_17 : Int32) (ss_count_17 : Int32) (ss_found_17 : Nat → Int64) (ss_leads_17 : Nat → Int32) (ss_slots_17 : Nat → Int32), (if ((1 : Int32) = 0 ∨ (1 : Int32) = 1) then some ((1 : Int32), ss_count_17, ss_found_17, ss_leads_17, ss_slots_17) else none) = some (o_r, o_ss_count, o_ss_found, o_ss_leads, o_ss_slots) → Wk X { frames := 2, cells := 0, slots := 0, locals := 50 } 7 D (va_A (w_Graph_exploreFrom (cI := cI) (cJ := cJ) (cC := cC) (cZ := cZ) (cR := cR) a_s a_z a_sf a_sl a_sx a_zb a_zr a_zc a_zq a_ze a_za a_zd ss_count ss_found ss_leads ss_slots zz_pieceCount zz_ruleCount zz_columnCount zz_behind zz_readersOfColumn) (xs X).heap.size) 0 0 (GE X D (w_Graph_exploreFrom (cI := cI) (cJ := cJ) (cC := cC) (cZ := cZ) (cR := cR) a_s a_z a_sf a_sl a_sx a_zb a_zr a_zc a_zq a_ze a_za a_zd ss_count ss_found ss_leads ss_slots zz_pieceCount zz_ruleCount zz_columnCount zz_behind zz_readersOfColumn) (fun (o : Option Value) (w : va_W) => o = some (.int o_r) ∧ w = w_Graph_exploreFrom (cI := cI) (cJ := cJ) (cC := cC) (cZ := cZ) (cR := cR) a_s a_z a_sf a_sl a_sx a_zb a_zr a_zc a_zq a_ze a_za a_zd o_ss_count o_ss_found o_ss_leads o_ss_slots zz_pieceCount zz_ruleCount zz_columnCount zz_behind zz_readersOfColumn) 0 0) (w_Graph_exploreFrom (cI := cI) (cJ := cJ) (cC := cC) (cZ := cZ) (cR := cR) a_s a_z a_sf a_sl a_sx a_zb a_zr a_zc a_zq a_ze a_za a_zd ss_count_17 ss_found_17 ss_leads_17 ss_slots_17 zz_pieceCount zz_ruleCount zz_columnCount zz_behind zz_readersOfColumn) [(5, .int l5_17), (3, .long r2), (0, .ref a_s), (1, .int p1), (2, .int p2)] [] 81 := by
    intro l5_17 ss_count_17 ss_found_17 ss_leads_17 ss_slots_17 h
    refine k_iconst C d_Graph_exploreFrom_81 (v := (1 : Int32)) (by decide) rfl ?_
    have g15 := gd1 h
    replace h := gd2 h
    exact k_zret C d_Graph_exploreFrom_82 (nz_bool g15) (tr1 h (fun t => (fun (o : Option Value) (w : va_W) => o = some (.int (t.1)) ∧ w = w_Graph_exploreFrom (cI := cI) (cJ := cJ) (cC := cC) (cZ := cZ) (cR := cR) a_s a_z a_sf a_sl a_sx a_zb a_zr a_zc a_zq a_ze a_za a_zd (t.2.1) (t.2.2.1) (t.2.2.2.1) (t.2.2.2.2) zz_pieceCount zz_ruleCount zz_columnCount zz_behind zz_readersOfColumn) (some (Value.int (1 : Int32))) (w_Graph_exploreFrom (cI := cI) (cJ := cJ) (cC := cC) (cZ := cZ) (cR := cR) a_s a_z a_sf a_sl a_sx a_zb a_zr a_zc a_zq a_ze a_za a_zd ss_count_17 ss_found_17 ss_leads_17 ss_slots_17 zz_pieceCount zz_ruleCount zz_columnCount zz_behind zz_readersOfColumn)) ⟨rfl, rfl⟩)
  have X17_1 : ∀ (l5_17 : Int32) (ss_count_17 : Int32) (ss_found_17 : Nat → Int64) (ss_leads_17 : Nat → Int32) (ss_slots_17 : Nat → Int32), (if ((0 : Int32) = 0 ∨ (0 : Int32) = 1) then some ((0 : Int32), ss_count_17, ss_found_17, ss_leads_17, ss_slots_17) else none) = some (o_r, o_ss_count, o_ss_found, o_ss_leads, o_ss_slots) → Wk X { frames := 2, cells := 0, slots := 0, locals := 50 } 7 D (va_A (w_Graph_exploreFrom (cI := cI) (cJ := cJ) (cC := cC) (cZ := cZ) (cR := cR) a_s a_z a_sf a_sl a_sx a_zb a_zr a_zc a_zq a_ze a_za a_zd ss_count ss_found ss_leads ss_slots zz_pieceCount zz_ruleCount zz_columnCount zz_behind zz_readersOfColumn) (xs X).heap.size) 0 0 (GE X D (w_Graph_exploreFrom (cI := cI) (cJ := cJ) (cC := cC) (cZ := cZ) (cR := cR) a_s a_z a_sf a_sl a_sx a_zb a_zr a_zc a_zq a_ze a_za a_zd ss_count ss_found ss_leads ss_slots zz_pieceCount zz_ruleCount zz_columnCount zz_behind zz_readersOfColumn) (fun (o : Option Value) (w : va_W) => o = some (.int o_r) ∧ w = w_Graph_exploreFrom (cI := cI) (cJ := cJ) (cC := cC) (cZ := cZ) (cR := cR) a_s a_z a_sf a_sl a_sx a_zb a_zr a_zc a_zq a_ze a_za a_zd o_ss_count o_ss_found o_ss_leads o_ss_slots zz_pieceCount zz_ruleCount zz_columnCount zz_behind zz_readersOfColumn) 0 0) (w_Graph_exploreFrom (cI := cI) (cJ := cJ) (cC := cC) (cZ := cZ) (cR := cR) a_s a_z a_sf a_sl a_sx a_zb a_zr a_zc a_zq a_ze a_za a_zd ss_count_17 ss_found_17 ss_leads_17 ss_slots_17 zz_pieceCount zz_ruleCount zz_columnCount zz_behind zz_readersOfColumn) [(5, .int l5_17), (3, .long r2), (0, .ref a_s), (1, .int p1), (2, .int p2)] [] 59 := by
    intro l5_17 ss_count_17 ss_found_17 ss_leads_17 ss_slots_17 h
    refine k_iconst C d_Graph_exploreFrom_59 (v := (0 : Int32)) (by decide) rfl ?_
    have g16 := gd1 h
    replace h := gd2 h
    exact k_zret C d_Graph_exploreFrom_60 (nz_bool g16) (tr1 h (fun t => (fun (o : Option Value) (w : va_W) => o = some (.int (t.1)) ∧ w = w_Graph_exploreFrom (cI := cI) (cJ := cJ) (cC := cC) (cZ := cZ) (cR := cR) a_s a_z a_sf a_sl a_sx a_zb a_zr a_zc a_zq a_ze a_za a_zd (t.2.1) (t.2.2.1) (t.2.2.2.1) (t.2.2.2.2) zz_pieceCount zz_ruleCount zz_columnCount zz_behind zz_readersOfColumn) (some (Value.int (0 : Int32))) (w_Graph_exploreFrom (cI := cI) (cJ := cJ) (cC := cC) (cZ := cZ) (cR := cR) a_s a_z a_sf a_sl a_sx a_zb a_zr a_zc a_zq a_ze a_za a_zd ss_count_17 ss_found_17 ss_leads_17 ss_slots_17 zz_pieceCount zz_ruleCount zz_columnCount zz_behind zz_readersOfColumn)) ⟨rfl, rfl⟩)
  have L17 : ∀ (kk17_0 : Int32 → Int32 → (Nat → Int64) → (Nat → Int32) → (Nat → Int32) → Option (Int32 × Int32 × (Nat → Int64) × (Nat → Int32) × (Nat → Int32))) (kk17_1 : Int32 → Int32 → (Nat → Int64) → (Nat → Int32) → (Nat → Int32) → Option (Int32 × Int32 × (Nat → Int64) × (Nat → Int32) × (Nat → Int32))) (hX17_0 : ∀ (l5_17 : Int32) (ss_count_17 : Int32) (ss_found_17 : Nat → Int64) (ss_leads_17 : Nat → Int32) (ss_slots_17 : Nat → Int32), kk17_0 l5_17 ss_count_17 ss_found_17 ss_leads_17 ss_slots_17 = some (o_r, o_ss_count, o_ss_found, o_ss_leads, o_ss_slots) → Wk X { frames := 2, cells := 0, slots := 0, locals := 50 } 7 D (va_A (w_Graph_exploreFrom (cI := cI) (cJ := cJ) (cC := cC) (cZ := cZ) (cR := cR) a_s a_z a_sf a_sl a_sx a_zb a_zr a_zc a_zq a_ze a_za a_zd ss_count ss_found ss_leads ss_slots zz_pieceCount zz_ruleCount zz_columnCount zz_behind zz_readersOfColumn) (xs X).heap.size) 0 0 (GE X D (w_Graph_exploreFrom (cI := cI) (cJ := cJ) (cC := cC) (cZ := cZ) (cR := cR) a_s a_z a_sf a_sl a_sx a_zb a_zr a_zc a_zq a_ze a_za a_zd ss_count ss_found ss_leads ss_slots zz_pieceCount zz_ruleCount zz_columnCount zz_behind zz_readersOfColumn) (fun (o : Option Value) (w : va_W) => o = some (.int o_r) ∧ w = w_Graph_exploreFrom (cI := cI) (cJ := cJ) (cC := cC) (cZ := cZ) (cR := cR) a_s a_z a_sf a_sl a_sx a_zb a_zr a_zc a_zq a_ze a_za a_zd o_ss_count o_ss_found o_ss_leads o_ss_slots zz_pieceCount zz_ruleCount zz_columnCount zz_behind zz_readersOfColumn) 0 0) (w_Graph_exploreFrom (cI := cI) (cJ := cJ) (cC := cC) (cZ := cZ) (cR := cR) a_s a_z a_sf a_sl a_sx a_zb a_zr a_zc a_zq a_ze a_za a_zd ss_count_17 ss_found_17 ss_leads_17 ss_slots_17 zz_pieceCount zz_ruleCount zz_columnCount zz_behind zz_readersOfColumn) [(5, .int l5_17), (3, .long r2), (0, .ref a_s), (1, .int p1), (2, .int p2)] [] 81) (hX17_1 : ∀ (l5_17 : Int32) (ss_count_17 : Int32) (ss_found_17 : Nat → Int64) (ss_leads_17 : Nat → Int32) (ss_slots_17 : Nat → Int32), kk17_1 l5_17 ss_count_17 ss_found_17 ss_leads_17 ss_slots_17 = some (o_r, o_ss_count, o_ss_found, o_ss_leads, o_ss_slots) → Wk X { frames := 2, cells := 0, slots := 0, locals := 50 } 7 D (va_A (w_Graph_exploreFrom (cI := cI) (cJ := cJ) (cC := cC) (cZ := cZ) (cR := cR) a_s a_z a_sf a_sl a_sx a_zb a_zr a_zc a_zq a_ze a_za a_zd ss_count ss_found ss_leads ss_slots zz_pieceCount zz_ruleCount zz_columnCount zz_behind zz_readersOfColumn) (xs X).heap.size) 0 0 (GE X D (w_Graph_exploreFrom (cI := cI) (cJ := cJ) (cC := cC) (cZ := cZ) (cR := cR) a_s a_z a_sf a_sl a_sx a_zb a_zr a_zc a_zq a_ze a_za a_zd ss_count ss_found ss_leads ss_slots zz_pieceCount zz_ruleCount zz_columnCount zz_behind zz_readersOfColumn) (fun (o : Option Value) (w : va_W) => o = some (.int o_r) ∧ w = w_Graph_exploreFrom (cI := cI) (cJ := cJ) (cC := cC) (cZ := cZ) (cR := cR) a_s a_z a_sf a_sl a_sx a_zb a_zr a_zc a_zq a_ze a_za a_zd o_ss_count o_ss_found o_ss_leads o_ss_slots zz_pieceCount zz_ruleCount zz_columnCount zz_behind zz_readersOfColumn) 0 0) (w_Graph_exploreFrom (cI := cI) (cJ := cJ) (cC := cC) (cZ := cZ) (cR := cR) a_s a_z a_sf a_sl a_sx a_zb a_zr a_zc a_zq a_ze a_za a_zd ss_count_17 ss_found_17 ss_leads_17 ss_slots_17 zz_pieceCount zz_ruleCount zz_columnCount zz_behind zz_readersOfColumn) [(5, .int l5_17), (3, .long r2), (0, .ref a_s), (1, .int p1), (2, .int p2)] [] 59) (n_17 : Nat) (l5_17 : Int32) (ss_count_17 : Int32) (ss_found_17 : Nat → Int64) (ss_leads_17 : Nat → Int32) (ss_slots_17 : Nat → Int32), f_Graph_exploreFrom_L17 zz_columnCount zz_readersOfColumn p1 p2 r2 fu kk17_0 kk17_1 n_17 l5_17 ss_count_17 ss_found_17 ss_leads_17 ss_slots_17 = some (o_r, o_ss_count, o_ss_found, o_ss_leads, o_ss_slots) → Wk X { frames := 2, cells := 0, slots := 0, locals := 50 } 7 D (va_A (w_Graph_exploreFrom (cI := cI) (cJ := cJ) (cC := cC) (cZ := cZ) (cR := cR) a_s a_z a_sf a_sl a_sx a_zb a_zr a_zc a_zq a_ze a_za a_zd ss_count ss_found ss_leads ss_slots zz_pieceCount zz_ruleCount zz_columnCount zz_behind zz_readersOfColumn) (xs X).heap.size) 0 0 (GE X D (w_Graph_exploreFrom (cI := cI) (cJ := cJ) (cC := cC) (cZ := cZ) (cR := cR) a_s a_z a_sf a_sl a_sx a_zb a_zr a_zc a_zq a_ze a_za a_zd ss_count ss_found ss_leads ss_slots zz_pieceCount zz_ruleCount zz_columnCount zz_behind zz_readersOfColumn) (fun (o : Option Value) (w : va_W) => o = some (.int o_r) ∧ w = w_Graph_exploreFrom (cI := cI) (cJ := cJ) (cC := cC) (cZ := cZ) (cR := cR) a_s a_z a_sf a_sl a_sx a_zb a_zr a_zc a_zq a_ze a_za a_zd o_ss_count o_ss_found o_ss_leads o_ss_slots zz_pieceCount zz_ruleCount zz_columnCount zz_behind zz_readersOfColumn) 0 0) (w_Graph_exploreFrom (cI := cI) (cJ := cJ) (cC := cC) (cZ := cZ) (cR := cR) a_s a_z a_sf a_sl a_sx a_zb a_zr a_zc a_zq a_ze a_za a_zd ss_count_17 ss_found_17 ss_leads_17 ss_slots_17 zz_pieceCount zz_ruleCount zz_columnCount zz_behind zz_readersOfColumn) [(5, .int l5_17), (3, .long r2), (0, .ref a_s), (1, .int p1), (2, .int p2)] [] 17 := by
    intro kk17_0 kk17_1 hX17_0 hX17_1 n_17
    induction n_17 with
    | zero =>
      intro l5_17 ss_count_17 ss_found_17 ss_leads_17 ss_slots_17 h
      exact nS h
    | succ n_17 ih17 =>
      intro l5_17 ss_count_17 ss_found_17 ss_leads_17 ss_slots_17 h
      replace h := (f_Graph_exploreFrom_L17_s _ _ _ _ _ _ _ _ _ _ _ _ _ _).symm.trans h
      refine k_iload C d_Graph_exploreFrom_17 0 rfl rfl ?_
      refine k_aload_n C d_Graph_exploreFrom_19 rfl 2 rfl rfl ?_
      refine k_getf C d_Graph_exploreFrom_20 hin_Graph rfl 0 (by decide) mw131 0 rfl rfl rfl ?_
      refine k_getN C d_Graph_exploreFrom_23 hin_Union rfl 9 (by decide) mw132 4 rfl rfl rfl ?_
      refine k_icmp_ge (tgt := 81) C d_Graph_exploreFrom_26 (by decide) rfl (fun c4 => ?_) (fun c4 => ?_)
      · replace h := gi_t h c4
        exact hX17_0 l5_17 ss_count_17 ss_found_17 ss_leads_17 ss_slots_17 h
      · replace h := gi_f h c4
        refine k_iload C d_Graph_exploreFrom_29 0 rfl rfl ?_
        refine k_bipush C d_Graph_exploreFrom_31 (v := (95 : Int32)) (by decide) rfl ?_
        refine k_icmp_ge (tgt := 81) C d_Graph_exploreFrom_33 (by decide) rfl (fun c5 => ?_) (fun c5 => ?_)
        · replace h := gi_t h c5
          exact hX17_0 l5_17 ss_count_17 ss_found_17 ss_leads_17 ss_slots_17 h
        · replace h := gi_f h c5
          refine k_aload_n C d_Graph_exploreFrom_36 rfl 2 rfl rfl ?_
          refine k_lload_n C d_Graph_exploreFrom_37 rfl 1 rfl rfl ?_
          refine k_aload_n C d_Graph_exploreFrom_38 rfl 2 rfl rfl ?_
          refine k_getf C d_Graph_exploreFrom_39 hin_Graph rfl 0 (by decide) mw131 0 rfl rfl rfl ?_
          refine k_iload C d_Graph_exploreFrom_42 0 rfl rfl ?_
          obtain ⟨r6, hc7, h⟩ := bd h
          refine k_callVd (As := [.int l5_17]) (st := [.long r2, .ref a_s]) (st' := [.long r6, .long r2, .ref a_s]) (wn := w_Graph_exploreFrom (cI := cI) (cJ := cJ) (cC := cC) (cZ := cZ) (cR := cR) a_s a_z a_sf a_sl a_sx a_zb a_zr a_zc a_zq a_ze a_za a_zd ss_count_17 ss_found_17 ss_leads_17 ss_slots_17 zz_pieceCount zz_ruleCount zz_columnCount zz_behind zz_readersOfColumn) C d_Graph_exploreFrom_44 (c_Union_readersOfColumn fu a_z a_zb a_zr a_zc a_zq a_ze a_za a_zd zz_pieceCount zz_ruleCount zz_columnCount zz_readersOfColumn l5_17 r6 hc7) co_Union_readersOfColumn cov_Union_readersOfColumn mw135 4 rfl rfl (by decide) (by decide) (Nat.le_of_ble_eq_true rfl) rfl [4, 6] [0, 1, 2, 3, 5] [0, 1, 2, 3, 5, 4, 6] rfl (by decide +kernel) rfl (by decide +kernel) (by decide +kernel) rfl (by decide +kernel) rfl rfl ?_
          refine k_land C d_Graph_exploreFrom_47 rfl ?_
          refine k_iload_n C d_Graph_exploreFrom_48 rfl 4 rfl rfl ?_
          obtain ⟨⟨r8, yss_count_9, yss_found_10, yss_slots_11⟩, hc12, h⟩ := bd h
          refine k_callVd (As := [.long (r2 &&& r6), .int p2]) (st := []) (st' := [.int r8]) (wn := w_Graph_exploreFrom (cI := cI) (cJ := cJ) (cC := cC) (cZ := cZ) (cR := cR) a_s a_z a_sf a_sl a_sx a_zb a_zr a_zc a_zq a_ze a_za a_zd yss_count_9 yss_found_10 ss_leads_17 yss_slots_11 zz_pieceCount zz_ruleCount zz_columnCount zz_behind zz_readersOfColumn) C d_Graph_exploreFrom_49 (c_Graph_numberOf fu a_s a_z a_sf a_sl a_sx ss_count_17 ss_found_17 ss_slots_17 (r2 &&& r6) p2 r8 yss_count_9 yss_found_10 yss_slots_11 hc12) co_Graph_numberOf cov_Graph_numberOf mw136 0 rfl rfl (by decide) (by decide) (Nat.le_of_ble_eq_true rfl) rfl [0, 1, 3] [2, 4, 5, 6] [4, 5, 0, 6, 1, 2, 3] rfl (by decide +kernel) rfl (by decide +kernel) (by decide +kernel) rfl (by decide +kernel) rfl rfl ?_
          refine k_istore (lv' := [(6, .int r8), (5, .int l5_17), (3, .long r2), (0, .ref a_s), (1, .int p1), (2, .int p2)]) C d_Graph_exploreFrom_52 (by decide) rfl rfl ?_
          refine k_iload C d_Graph_exploreFrom_54 0 rfl rfl ?_
          refine k_if_ge (tgt := 61) C d_Graph_exploreFrom_56 (by decide) rfl (fun c13 => ?_) (fun c13 => ?_)
          · replace h := gi_t h c13
            refine k_aload_n C d_Graph_exploreFrom_61 rfl 3 rfl rfl ?_
            refine k_getf C d_Graph_exploreFrom_62 hin_Graph rfl 2 (by decide) mw133 0 rfl rfl rfl ?_
            refine k_iload_n C d_Graph_exploreFrom_65 rfl 4 rfl rfl ?_
            refine k_bipush C d_Graph_exploreFrom_66 (v := (95 : Int32)) (by decide) rfl ?_
            refine k_imul C d_Graph_exploreFrom_68 rfl ?_
            refine k_iload C d_Graph_exploreFrom_69 1 rfl rfl ?_
            refine k_iadd C d_Graph_exploreFrom_71 rfl ?_
            refine k_iload C d_Graph_exploreFrom_72 0 rfl rfl ?_
            have g14 := gd1 h
            replace h := gd2 h
            refine k_iast (ws' := w_Graph_exploreFrom (cI := cI) (cJ := cJ) (cC := cC) (cZ := cZ) (cR := cR) a_s a_z a_sf a_sl a_sx a_zb a_zr a_zc a_zq a_ze a_za a_zd yss_count_9 yss_found_10 (upd ss_leads_17 ((p1 * (95 : Int32)) + l5_17).toNatClampNeg r8) yss_slots_11 zz_pieceCount zz_ruleCount zz_columnCount zz_behind zz_readersOfColumn) C d_Graph_exploreFrom_74 2 0 rfl rfl (inB_in g14) rfl rfl ?_
            refine k_iinc (lv' := [(5, .int (l5_17 + 1)), (6, .int r8), (3, .long r2), (0, .ref a_s), (1, .int p1), (2, .int p2)]) C d_Graph_exploreFrom_75 1 rfl rfl (by decide) rfl rfl ?_
            refine k_goto (tgt := 17) C d_Graph_exploreFrom_78 (by decide) ?_
            refine k_lpk [0, 2, 3, 4, 5] rfl ?_
            exact ih17 (l5_17 + 1) yss_count_9 yss_found_10 (upd ss_leads_17 ((p1 * (95 : Int32)) + l5_17).toNatClampNeg r8) yss_slots_11 h
          · replace h := gi_f h c13
            refine k_lpk [1, 2, 3, 4, 5] rfl ?_
            exact hX17_1 l5_17 yss_count_9 yss_found_10 ss_leads_17 yss_slots_11 h
  exact L17 (fun l5_17 ss_count_17 ss_found_17 ss_leads_17 ss_slots_17 => (if ((1 : Int32) = 0 ∨ (1 : Int32) = 1) then some ((1 : Int32), ss_count_17, ss_found_17, ss_leads_17, ss_slots_17) else none)) (fun l5_17 ss_count_17 ss_found_17 ss_leads_17 ss_slots_17 => (if ((0 : Int32) = 0 ∨ (0 : Int32) = 1) then some ((0 : Int32), ss_count_17, ss_found_17, ss_leads_17, ss_slots_17) else none)) X17_0 X17_1 fu (0 : Int32) ss_count ss_found ss_leads ss_slots h
theorem d_Graph_explore_0 : decode b_Graph_explore 0 = .ok (.aload_n 0, 1) := by decide +kernel
theorem d_Graph_explore_1 : decode b_Graph_explore 1 = .ok (.getfield 19, 3) := by decide +kernel
theorem d_Graph_explore_4 : decode b_Graph_explore 4 = .ok (.iconst 0, 1) := by decide +kernel
theorem d_Graph_explore_5 : decode b_Graph_explore 5 = .ok (.invokestatic 26, 3) := by decide +kernel
theorem d_Graph_explore_8 : decode b_Graph_explore 8 = .ok (.aload_n 0, 1) := by decide +kernel
theorem d_Graph_explore_9 : decode b_Graph_explore 9 = .ok (.iconst 0, 1) := by decide +kernel
theorem d_Graph_explore_10 : decode b_Graph_explore 10 = .ok (.putfield 32, 3) := by decide +kernel
theorem d_Graph_explore_13 : decode b_Graph_explore 13 = .ok (.aload_n 0, 1) := by decide +kernel
theorem d_Graph_explore_14 : decode b_Graph_explore 14 = .ok (.lconst 1, 1) := by decide +kernel
theorem d_Graph_explore_15 : decode b_Graph_explore 15 = .ok (.iload_n 1, 1) := by decide +kernel
theorem d_Graph_explore_16 : decode b_Graph_explore 16 = .ok (.invokevirtual 36, 3) := by decide +kernel
theorem d_Graph_explore_19 : decode b_Graph_explore 19 = .ok (.pop, 1) := by decide +kernel
theorem d_Graph_explore_20 : decode b_Graph_explore 20 = .ok (.iconst 0, 1) := by decide +kernel
theorem d_Graph_explore_21 : decode b_Graph_explore 21 = .ok (.istore_n 2, 1) := by decide +kernel
theorem d_Graph_explore_22 : decode b_Graph_explore 22 = .ok (.iload_n 2, 1) := by decide +kernel
theorem d_Graph_explore_23 : decode b_Graph_explore 23 = .ok (.aload_n 0, 1) := by decide +kernel
theorem d_Graph_explore_24 : decode b_Graph_explore 24 = .ok (.getfield 32, 3) := by decide +kernel
theorem d_Graph_explore_27 : decode b_Graph_explore 27 = .ok (.if_icmp .ge 26, 3) := by decide +kernel
theorem d_Graph_explore_30 : decode b_Graph_explore 30 = .ok (.iload_n 2, 1) := by decide +kernel
theorem d_Graph_explore_31 : decode b_Graph_explore 31 = .ok (.bipush 120, 2) := by decide +kernel
theorem d_Graph_explore_33 : decode b_Graph_explore 33 = .ok (.if_icmp .ge 20, 3) := by decide +kernel
theorem d_Graph_explore_36 : decode b_Graph_explore 36 = .ok (.aload_n 0, 1) := by decide +kernel
theorem d_Graph_explore_37 : decode b_Graph_explore 37 = .ok (.iload_n 2, 1) := by decide +kernel
theorem d_Graph_explore_38 : decode b_Graph_explore 38 = .ok (.iload_n 1, 1) := by decide +kernel
theorem d_Graph_explore_39 : decode b_Graph_explore 39 = .ok (.invokevirtual 40, 3) := by decide +kernel
theorem d_Graph_explore_42 : decode b_Graph_explore 42 = .ok (.ifCond .ne 5, 3) := by decide +kernel
theorem d_Graph_explore_45 : decode b_Graph_explore 45 = .ok (.iconst 0, 1) := by decide +kernel
theorem d_Graph_explore_46 : decode b_Graph_explore 46 = .ok (.ireturn, 1) := by decide +kernel
theorem d_Graph_explore_47 : decode b_Graph_explore 47 = .ok (.iinc 2 1, 3) := by decide +kernel
theorem d_Graph_explore_50 : decode b_Graph_explore 50 = .ok (.goto (-28), 3) := by decide +kernel
theorem d_Graph_explore_53 : decode b_Graph_explore 53 = .ok (.iconst 1, 1) := by decide +kernel
theorem d_Graph_explore_54 : decode b_Graph_explore 54 = .ok (.ireturn, 1) := by decide +kernel
abbrev w_Graph_explore {cI cJ cC cZ cR : ClassId} (a_s a_z a_sf a_sl a_sx a_zb a_zr a_zc a_zq a_ze a_za a_zd : Nat) (ss_count : Int32) (ss_found : Nat → Int64) (ss_leads : Nat → Int32) (ss_slots : Nat → Int32) (zz_pieceCount : Int32) (zz_ruleCount : Int32) (zz_columnCount : Int32) (zz_behind : Nat → Int64) (zz_readersOfColumn : Nat → Int64) : va_W := [(a_s, .inr (5, [.ref a_z, .ref a_sf, .ref a_sl, .ref a_sx, .int ss_count])), (a_sf, .inl (cJ, 120, .inr (.inl ss_found))), (a_sl, .inl (cI, 11400, .inl ss_leads)), (a_sx, .inl (cI, 256, .inl ss_slots)), (a_z, .inr (4, [.ref a_zb, .ref a_zr, .ref a_zc, .ref a_zq, .ref a_ze, .ref a_za, .ref a_zd, .int zz_pieceCount, .int zz_ruleCount, .int zz_columnCount])), (a_zb, .inl (cJ, 61, .inr (.inl zz_behind))), (a_zq, .inl (cJ, 95, .inr (.inl zz_readersOfColumn)))]
def f_Graph_explore_L22 (zz_columnCount : Int32) (zz_behind : Nat → Int64) (zz_readersOfColumn : Nat → Int64) (p1 : Int32) (fu : Nat) (kk22_0 : Int32 → Int32 → (Nat → Int64) → (Nat → Int32) → (Nat → Int32) → Option (Int32 × Int32 × (Nat → Int64) × (Nat → Int32) × (Nat → Int32))) (kk22_1 : Int32 → Int32 → (Nat → Int64) → (Nat → Int32) → (Nat → Int32) → Option (Int32 × Int32 × (Nat → Int64) × (Nat → Int32) × (Nat → Int32))) : Nat → Int32 → Int32 → (Nat → Int64) → (Nat → Int32) → (Nat → Int32) → Option (Int32 × Int32 × (Nat → Int64) × (Nat → Int32) × (Nat → Int32))
  | 0, _, _, _, _, _ => none
  | n_22 + 1, l2_22, ss_count_22, ss_found_22, ss_leads_22, ss_slots_22 => (if ss_count_22 ≤ l2_22 then (kk22_0 l2_22 ss_count_22 ss_found_22 ss_leads_22 ss_slots_22) else (if (120 : Int32) ≤ l2_22 then (kk22_0 l2_22 ss_count_22 ss_found_22 ss_leads_22 ss_slots_22) else (Option.bind (f_Graph_exploreFrom fu l2_22 p1 ss_count_22 ss_found_22 ss_leads_22 ss_slots_22 zz_columnCount zz_behind zz_readersOfColumn) fun (r10, yss_count_11, yss_found_12, yss_leads_13, yss_slots_14) => (if r10 = 0 then (kk22_1 l2_22 yss_count_11 yss_found_12 yss_leads_13 yss_slots_14) else (f_Graph_explore_L22 zz_columnCount zz_behind zz_readersOfColumn p1 fu kk22_0 kk22_1 n_22 (l2_22 + 1) yss_count_11 yss_found_12 yss_leads_13 yss_slots_14)))))
theorem f_Graph_explore_L22_s (zz_columnCount : Int32) (zz_behind : Nat → Int64) (zz_readersOfColumn : Nat → Int64) (p1 : Int32) (fu : Nat) (kk22_0 : Int32 → Int32 → (Nat → Int64) → (Nat → Int32) → (Nat → Int32) → Option (Int32 × Int32 × (Nat → Int64) × (Nat → Int32) × (Nat → Int32))) (kk22_1 : Int32 → Int32 → (Nat → Int64) → (Nat → Int32) → (Nat → Int32) → Option (Int32 × Int32 × (Nat → Int64) × (Nat → Int32) × (Nat → Int32))) (n_22 : Nat) (l2_22 : Int32) (ss_count_22 : Int32) (ss_found_22 : Nat → Int64) (ss_leads_22 : Nat → Int32) (ss_slots_22 : Nat → Int32) : f_Graph_explore_L22 zz_columnCount zz_behind zz_readersOfColumn p1 fu kk22_0 kk22_1 (n_22 + 1) l2_22 ss_count_22 ss_found_22 ss_leads_22 ss_slots_22 = (if ss_count_22 ≤ l2_22 then (kk22_0 l2_22 ss_count_22 ss_found_22 ss_leads_22 ss_slots_22) else (if (120 : Int32) ≤ l2_22 then (kk22_0 l2_22 ss_count_22 ss_found_22 ss_leads_22 ss_slots_22) else (Option.bind (f_Graph_exploreFrom fu l2_22 p1 ss_count_22 ss_found_22 ss_leads_22 ss_slots_22 zz_columnCount zz_behind zz_readersOfColumn) fun (r10, yss_count_11, yss_found_12, yss_leads_13, yss_slots_14) => (if r10 = 0 then (kk22_1 l2_22 yss_count_11 yss_found_12 yss_leads_13 yss_slots_14) else (f_Graph_explore_L22 zz_columnCount zz_behind zz_readersOfColumn p1 fu kk22_0 kk22_1 n_22 (l2_22 + 1) yss_count_11 yss_found_12 yss_leads_13 yss_slots_14))))) := rfl
def f_Graph_explore (fu : Nat) (p1 : Int32) (ss_found : Nat → Int64) (ss_leads : Nat → Int32) (ss_slots : Nat → Int32) (zz_columnCount : Int32) (zz_behind : Nat → Int64) (zz_readersOfColumn : Nat → Int64) : Option (Int32 × Int32 × (Nat → Int64) × (Nat → Int32) × (Nat → Int32)) := (Option.bind (f_Arrays_fillI fu 256 (0 : Int32) ss_slots) fun yv_fa_1 => (Option.bind (f_Graph_numberOf fu (1 : Int64) p1 (0 : Int32) ss_found yv_fa_1) fun (r3, yss_count_4, yss_found_5, yss_slots_6) => (f_Graph_explore_L22 zz_columnCount zz_behind zz_readersOfColumn p1 fu (fun l2_22 ss_count_22 ss_found_22 ss_leads_22 ss_slots_22 => (if ((1 : Int32) = 0 ∨ (1 : Int32) = 1) then some ((1 : Int32), ss_count_22, ss_found_22, ss_leads_22, ss_slots_22) else none)) (fun l2_22 ss_count_22 ss_found_22 ss_leads_22 ss_slots_22 => (if ((0 : Int32) = 0 ∨ (0 : Int32) = 1) then some ((0 : Int32), ss_count_22, ss_found_22, ss_leads_22, ss_slots_22) else none)) fu (0 : Int32) yss_count_4 yss_found_5 ss_leads yss_slots_6)))
set_option maxRecDepth 100000 in
set_option maxHeartbeats 4000000 in
theorem c_Graph_explore {l : Launch} {D : va_G} {cI cJ cC cZ cR : ClassId} (fu : Nat) (a_s a_z a_sf a_sl a_sx a_zb a_zr a_zc a_zq a_ze a_za a_zd : Nat)   (ss_count : Int32) (ss_found : Nat → Int64) (ss_leads : Nat → Int32) (ss_slots : Nat → Int32) (zz_pieceCount : Int32) (zz_ruleCount : Int32) (zz_columnCount : Int32) (zz_behind : Nat → Int64) (zz_readersOfColumn : Nat → Int64) (p1 : Int32) (o_r : Int32) (o_ss_count : Int32) (o_ss_found : Nat → Int64) (o_ss_leads : Nat → Int32) (o_ss_slots : Nat → Int32) (h : f_Graph_explore fu p1 ss_found ss_leads ss_slots zz_columnCount zz_behind zz_readersOfColumn = some (o_r, o_ss_count, o_ss_found, o_ss_leads, o_ss_slots)) : GM l D (tysL cI cJ cC cZ cR) y_Graph_explore b_Graph_explore 3 (some (.boolean)) { frames := 3, cells := 0, slots := 0, locals := 76 } [.ref a_s, .int p1] (w_Graph_explore (cI := cI) (cJ := cJ) (cC := cC) (cZ := cZ) (cR := cR) a_s a_z a_sf a_sl a_sx a_zb a_zr a_zc a_zq a_ze a_za a_zd ss_count ss_found ss_leads ss_slots zz_pieceCount zz_ruleCount zz_columnCount zz_behind zz_readersOfColumn) (fun (o : Option Value) (w : va_W) => o = some (.int o_r) ∧ w = w_Graph_explore (cI := cI) (cJ := cJ) (cC := cC) (cZ := cZ) (cR := cR) a_s a_z a_sf a_sl a_sx a_zb a_zr a_zc a_zq a_ze a_za a_zd o_ss_count o_ss_found o_ss_leads o_ss_slots zz_pieceCount zz_ruleCount zz_columnCount zz_behind zz_readersOfColumn) := by
  refine GM.of (by decide) (Nat.le_of_ble_eq_true rfl) (lv := [(0, .ref a_s), (1, .int p1)]) rfl ?_
  intro X hX C
  subst hX
  refine k_aload_n C d_Graph_explore_0 rfl 0 rfl rfl ?_
  refine k_getf C d_Graph_explore_1 hin_Graph rfl 3 (by decide) mw128 0 rfl rfl rfl ?_
  refine k_iconst C d_Graph_explore_4 (v := (0 : Int32)) (by decide) rfl ?_
  obtain ⟨yv_fa_1, hc2, h⟩ := bd h
  refine k_callSd (As := [.ref a_sx, .int (0 : Int32)]) (st := []) (st' := []) (wn := w_Graph_explore (cI := cI) (cJ := cJ) (cC := cC) (cZ := cZ) (cR := cR) a_s a_z a_sf a_sl a_sx a_zb a_zr a_zc a_zq a_ze a_za a_zd ss_count ss_found ss_leads yv_fa_1 zz_pieceCount zz_ruleCount zz_columnCount zz_behind zz_readersOfColumn) C d_Graph_explore_5 (c_Arrays_fillI fu a_sx 256 ss_slots (0 : Int32) yv_fa_1 hc2) co_Arrays_fillI cos_Arrays_fillI mw137 (by decide) (by decide) (Nat.le_of_ble_eq_true rfl) rfl [3] [0, 1, 2, 4, 5, 6] [0, 1, 2, 6, 3, 4, 5] rfl (by decide +kernel) rfl (by decide +kernel) (by decide +kernel) rfl (by decide +kernel) rfl rfl ?_
  refine k_aload_n C d_Graph_explore_8 rfl 0 rfl rfl ?_
  refine k_iconst C d_Graph_explore_9 (v := (0 : Int32)) (by decide) rfl ?_
  refine k_putf (ws' := w_Graph_explore (cI := cI) (cJ := cJ) (cC := cC) (cZ := cZ) (cR := cR) a_s a_z a_sf a_sl a_sx a_zb a_zr a_zc a_zq a_ze a_za a_zd (0 : Int32) ss_found ss_leads yv_fa_1 zz_pieceCount zz_ruleCount zz_columnCount zz_behind zz_readersOfColumn) C d_Graph_explore_10 hin_Graph hty_Graph hnn_Graph rfl 4 (by decide) mw126 rfl 0 rfl rfl rfl (Nat.le_of_ble_eq_true rfl) rfl rfl ?_
  refine k_aload_n C d_Graph_explore_13 rfl 0 rfl rfl ?_
  refine k_lconst C d_Graph_explore_14 (v := (1 : Int64)) (by decide) rfl ?_
  refine k_iload_n C d_Graph_explore_15 rfl 1 rfl rfl ?_
  obtain ⟨⟨r3, yss_count_4, yss_found_5, yss_slots_6⟩, hc7, h⟩ := bd h
  refine k_callVd (As := [.long (1 : Int64), .int p1]) (st := []) (st' := [.int r3]) (wn := w_Graph_explore (cI := cI) (cJ := cJ) (cC := cC) (cZ := cZ) (cR := cR) a_s a_z a_sf a_sl a_sx a_zb a_zr a_zc a_zq a_ze a_za a_zd yss_count_4 yss_found_5 ss_leads yss_slots_6 zz_pieceCount zz_ruleCount zz_columnCount zz_behind zz_readersOfColumn) C d_Graph_explore_16 (c_Graph_numberOf fu a_s a_z a_sf a_sl a_sx (0 : Int32) ss_found yv_fa_1 (1 : Int64) p1 r3 yss_count_4 yss_found_5 yss_slots_6 hc7) co_Graph_numberOf cov_Graph_numberOf mw136 0 rfl rfl (by decide) (by decide) (Nat.le_of_ble_eq_true rfl) rfl [0, 1, 3] [2, 4, 5, 6] [4, 5, 0, 6, 1, 2, 3] rfl (by decide +kernel) rfl (by decide +kernel) (by decide +kernel) rfl (by decide +kernel) rfl rfl ?_
  refine k_pop C d_Graph_explore_19 rfl rfl ?_
  refine k_iconst C d_Graph_explore_20 (v := (0 : Int32)) (by decide) rfl ?_
  refine k_istore_n (lv' := [(2, .int (0 : Int32)), (0, .ref a_s), (1, .int p1)]) C d_Graph_explore_21 rfl (by decide) rfl rfl ?_
  have X22_0 : ∀ (l2_22 : Int32) (ss_count_22 : Int32) (ss_found_22 : Nat → Int64) (ss_leads_22 : Nat → Int32) (ss_slots_22 : Nat → Int32), (if ((1 : Int32) = 0 ∨ (1 : Int32) = 1) then some ((1 : Int32), ss_count_22, ss_found_22, ss_leads_22, ss_slots_22) else none) = some (o_r, o_ss_count, o_ss_found, o_ss_leads, o_ss_slots) → Wk X { frames := 3, cells := 0, slots := 0, locals := 76 } 3 D (va_A (w_Graph_explore (cI := cI) (cJ := cJ) (cC := cC) (cZ := cZ) (cR := cR) a_s a_z a_sf a_sl a_sx a_zb a_zr a_zc a_zq a_ze a_za a_zd ss_count ss_found ss_leads ss_slots zz_pieceCount zz_ruleCount zz_columnCount zz_behind zz_readersOfColumn) (xs X).heap.size) 0 0 (GE X D (w_Graph_explore (cI := cI) (cJ := cJ) (cC := cC) (cZ := cZ) (cR := cR) a_s a_z a_sf a_sl a_sx a_zb a_zr a_zc a_zq a_ze a_za a_zd ss_count ss_found ss_leads ss_slots zz_pieceCount zz_ruleCount zz_columnCount zz_behind zz_readersOfColumn) (fun (o : Option Value) (w : va_W) => o = some (.int o_r) ∧ w = w_Graph_explore (cI := cI) (cJ := cJ) (cC := cC) (cZ := cZ) (cR := cR) a_s a_z a_sf a_sl a_sx a_zb a_zr a_zc a_zq a_ze a_za a_zd o_ss_count o_ss_found o_ss_leads o_ss_slots zz_pieceCount zz_ruleCount zz_columnCount zz_behind zz_readersOfColumn) 0 0) (w_Graph_explore (cI := cI) (cJ := cJ) (cC := cC) (cZ := cZ) (cR := cR) a_s a_z a_sf a_sl a_sx a_zb a_zr a_zc a_zq a_ze a_za a_zd ss_count_22 ss_found_22 ss_leads_22 ss_slots_22 zz_pieceCount zz_ruleCount zz_columnCount zz_behind zz_readersOfColumn) [(2, .int l2_22), (0, .ref a_s), (1, .int p1)] [] 53 := by
    intro l2_22 ss_count_22 ss_found_22 ss_leads_22 ss_slots_22 h
    refine k_iconst C d_Graph_explore_53 (v := (1 : Int32)) (by decide) rfl ?_
    have g17 := gd1 h
    replace h := gd2 h
    exact k_zret C d_Graph_explore_54 (nz_bool g17) (tr1 h (fun t => (fun (o : Option Value) (w : va_W) => o = some (.int (t.1)) ∧ w = w_Graph_explore (cI := cI) (cJ := cJ) (cC := cC) (cZ := cZ) (cR := cR) a_s a_z a_sf a_sl a_sx a_zb a_zr a_zc a_zq a_ze a_za a_zd (t.2.1) (t.2.2.1) (t.2.2.2.1) (t.2.2.2.2) zz_pieceCount zz_ruleCount zz_columnCount zz_behind zz_readersOfColumn) (some (Value.int (1 : Int32))) (w_Graph_explore (cI := cI) (cJ := cJ) (cC := cC) (cZ := cZ) (cR := cR) a_s a_z a_sf a_sl a_sx a_zb a_zr a_zc a_zq a_ze a_za a_zd ss_count_22 ss_found_22 ss_leads_22 ss_slots_22 zz_pieceCount zz_ruleCount zz_columnCount zz_behind zz_readersOfColumn)) ⟨rfl, rfl⟩)
  have X22_1 : ∀ (l2_22 : Int32) (ss_count_22 : Int32) (ss_found_22 : Nat → Int64) (ss_leads_22 : Nat → Int32) (ss_slots_22 : Nat → Int32), (if ((0 : Int32) = 0 ∨ (0 : Int32) = 1) then some ((0 : Int32), ss_count_22, ss_found_22, ss_leads_22, ss_slots_22) else none) = some (o_r, o_ss_count, o_ss_found, o_ss_leads, o_ss_slots) → Wk X { frames := 3, cells := 0, slots := 0, locals := 76 } 3 D (va_A (w_Graph_explore (cI := cI) (cJ := cJ) (cC := cC) (cZ := cZ) (cR := cR) a_s a_z a_sf a_sl a_sx a_zb a_zr a_zc a_zq a_ze a_za a_zd ss_count ss_found ss_leads ss_slots zz_pieceCount zz_ruleCount zz_columnCount zz_behind zz_readersOfColumn) (xs X).heap.size) 0 0 (GE X D (w_Graph_explore (cI := cI) (cJ := cJ) (cC := cC) (cZ := cZ) (cR := cR) a_s a_z a_sf a_sl a_sx a_zb a_zr a_zc a_zq a_ze a_za a_zd ss_count ss_found ss_leads ss_slots zz_pieceCount zz_ruleCount zz_columnCount zz_behind zz_readersOfColumn) (fun (o : Option Value) (w : va_W) => o = some (.int o_r) ∧ w = w_Graph_explore (cI := cI) (cJ := cJ) (cC := cC) (cZ := cZ) (cR := cR) a_s a_z a_sf a_sl a_sx a_zb a_zr a_zc a_zq a_ze a_za a_zd o_ss_count o_ss_found o_ss_leads o_ss_slots zz_pieceCount zz_ruleCount zz_columnCount zz_behind zz_readersOfColumn) 0 0) (w_Graph_explore (cI := cI) (cJ := cJ) (cC := cC) (cZ := cZ) (cR := cR) a_s a_z a_sf a_sl a_sx a_zb a_zr a_zc a_zq a_ze a_za a_zd ss_count_22 ss_found_22 ss_leads_22 ss_slots_22 zz_pieceCount zz_ruleCount zz_columnCount zz_behind zz_readersOfColumn) [(2, .int l2_22), (0, .ref a_s), (1, .int p1)] [] 45 := by
    intro l2_22 ss_count_22 ss_found_22 ss_leads_22 ss_slots_22 h
    refine k_iconst C d_Graph_explore_45 (v := (0 : Int32)) (by decide) rfl ?_
    have g18 := gd1 h
    replace h := gd2 h
    exact k_zret C d_Graph_explore_46 (nz_bool g18) (tr1 h (fun t => (fun (o : Option Value) (w : va_W) => o = some (.int (t.1)) ∧ w = w_Graph_explore (cI := cI) (cJ := cJ) (cC := cC) (cZ := cZ) (cR := cR) a_s a_z a_sf a_sl a_sx a_zb a_zr a_zc a_zq a_ze a_za a_zd (t.2.1) (t.2.2.1) (t.2.2.2.1) (t.2.2.2.2) zz_pieceCount zz_ruleCount zz_columnCount zz_behind zz_readersOfColumn) (some (Value.int (0 : Int32))) (w_Graph_explore (cI := cI) (cJ := cJ) (cC := cC) (cZ := cZ) (cR := cR) a_s a_z a_sf a_sl a_sx a_zb a_zr a_zc a_zq a_ze a_za a_zd ss_count_22 ss_found_22 ss_leads_22 ss_slots_22 zz_pieceCount zz_ruleCount zz_columnCount zz_behind zz_readersOfColumn)) ⟨rfl, rfl⟩)
  have L22 : ∀ (kk22_0 : Int32 → Int32 → (Nat → Int64) → (Nat → Int32) → (Nat → Int32) → Option (Int32 × Int32 × (Nat → Int64) × (Nat → Int32) × (Nat → Int32))) (kk22_1 : Int32 → Int32 → (Nat → Int64) → (Nat → Int32) → (Nat → Int32) → Option (Int32 × Int32 × (Nat → Int64) × (Nat → Int32) × (Nat → Int32))) (hX22_0 : ∀ (l2_22 : Int32) (ss_count_22 : Int32) (ss_found_22 : Nat → Int64) (ss_leads_22 : Nat → Int32) (ss_slots_22 : Nat → Int32), kk22_0 l2_22 ss_count_22 ss_found_22 ss_leads_22 ss_slots_22 = some (o_r, o_ss_count, o_ss_found, o_ss_leads, o_ss_slots) → Wk X { frames := 3, cells := 0, slots := 0, locals := 76 } 3 D (va_A (w_Graph_explore (cI := cI) (cJ := cJ) (cC := cC) (cZ := cZ) (cR := cR) a_s a_z a_sf a_sl a_sx a_zb a_zr a_zc a_zq a_ze a_za a_zd ss_count ss_found ss_leads ss_slots zz_pieceCount zz_ruleCount zz_columnCount zz_behind zz_readersOfColumn) (xs X).heap.size) 0 0 (GE X D (w_Graph_explore (cI := cI) (cJ := cJ) (cC := cC) (cZ := cZ) (cR := cR) a_s a_z a_sf a_sl a_sx a_zb a_zr a_zc a_zq a_ze a_za a_zd ss_count ss_found ss_leads ss_slots zz_pieceCount zz_ruleCount zz_columnCount zz_behind zz_readersOfColumn) (fun (o : Option Value) (w : va_W) => o = some (.int o_r) ∧ w = w_Graph_explore (cI := cI) (cJ := cJ) (cC := cC) (cZ := cZ) (cR := cR) a_s a_z a_sf a_sl a_sx a_zb a_zr a_zc a_zq a_ze a_za a_zd o_ss_count o_ss_found o_ss_leads o_ss_slots zz_pieceCount zz_ruleCount zz_columnCount zz_behind zz_readersOfColumn) 0 0) (w_Graph_explore (cI := cI) (cJ := cJ) (cC := cC) (cZ := cZ) (cR := cR) a_s a_z a_sf a_sl a_sx a_zb a_zr a_zc a_zq a_ze a_za a_zd ss_count_22 ss_found_22 ss_leads_22 ss_slots_22 zz_pieceCount zz_ruleCount zz_columnCount zz_behind zz_readersOfColumn) [(2, .int l2_22), (0, .ref a_s), (1, .int p1)] [] 53) (hX22_1 : ∀ (l2_22 : Int32) (ss_count_22 : Int32) (ss_found_22 : Nat → Int64) (ss_leads_22 : Nat → Int32) (ss_slots_22 : Nat → Int32), kk22_1 l2_22 ss_count_22 ss_found_22 ss_leads_22 ss_slots_22 = some (o_r, o_ss_count, o_ss_found, o_ss_leads, o_ss_slots) → Wk X { frames := 3, cells := 0, slots := 0, locals := 76 } 3 D (va_A (w_Graph_explore (cI := cI) (cJ := cJ) (cC := cC) (cZ := cZ) (cR := cR) a_s a_z a_sf a_sl a_sx a_zb a_zr a_zc a_zq a_ze a_za a_zd ss_count ss_found ss_leads ss_slots zz_pieceCount zz_ruleCount zz_columnCount zz_behind zz_readersOfColumn) (xs X).heap.size) 0 0 (GE X D (w_Graph_explore (cI := cI) (cJ := cJ) (cC := cC) (cZ := cZ) (cR := cR) a_s a_z a_sf a_sl a_sx a_zb a_zr a_zc a_zq a_ze a_za a_zd ss_count ss_found ss_leads ss_slots zz_pieceCount zz_ruleCount zz_columnCount zz_behind zz_readersOfColumn) (fun (o : Option Value) (w : va_W) => o = some (.int o_r) ∧ w = w_Graph_explore (cI := cI) (cJ := cJ) (cC := cC) (cZ := cZ) (cR := cR) a_s a_z a_sf a_sl a_sx a_zb a_zr a_zc a_zq a_ze a_za a_zd o_ss_count o_ss_found o_ss_leads o_ss_slots zz_pieceCount zz_ruleCount zz_columnCount zz_behind zz_readersOfColumn) 0 0) (w_Graph_explore (cI := cI) (cJ := cJ) (cC := cC) (cZ := cZ) (cR := cR) a_s a_z a_sf a_sl a_sx a_zb a_zr a_zc a_zq a_ze a_za a_zd ss_count_22 ss_found_22 ss_leads_22 ss_slots_22 zz_pieceCount zz_ruleCount zz_columnCount zz_behind zz_readersOfColumn) [(2, .int l2_22), (0, .ref a_s), (1, .int p1)] [] 45) (n_22 : Nat) (l2_22 : Int32) (ss_count_22 : Int32) (ss_found_22 : Nat → Int64) (ss_leads_22 : Nat → Int32) (ss_slots_22 : Nat → Int32), f_Graph_explore_L22 zz_columnCount zz_behind zz_readersOfColumn p1 fu kk22_0 kk22_1 n_22 l2_22 ss_count_22 ss_found_22 ss_leads_22 ss_slots_22 = some (o_r, o_ss_count, o_ss_found, o_ss_leads, o_ss_slots) → Wk X { frames := 3, cells := 0, slots := 0, locals := 76 } 3 D (va_A (w_Graph_explore (cI := cI) (cJ := cJ) (cC := cC) (cZ := cZ) (cR := cR) a_s a_z a_sf a_sl a_sx a_zb a_zr a_zc a_zq a_ze a_za a_zd ss_count ss_found ss_leads ss_slots zz_pieceCount zz_ruleCount zz_columnCount zz_behind zz_readersOfColumn) (xs X).heap.size) 0 0 (GE X D (w_Graph_explore (cI := cI) (cJ := cJ) (cC := cC) (cZ := cZ) (cR := cR) a_s a_z a_sf a_sl a_sx a_zb a_zr a_zc a_zq a_ze a_za a_zd ss_count ss_found ss_leads ss_slots zz_pieceCount zz_ruleCount zz_columnCount zz_behind zz_readersOfColumn) (fun (o : Option Value) (w : va_W) => o = some (.int o_r) ∧ w = w_Graph_explore (cI := cI) (cJ := cJ) (cC := cC) (cZ := cZ) (cR := cR) a_s a_z a_sf a_sl a_sx a_zb a_zr a_zc a_zq a_ze a_za a_zd o_ss_count o_ss_found o_ss_leads o_ss_slots zz_pieceCount zz_ruleCount zz_columnCount zz_behind zz_readersOfColumn) 0 0) (w_Graph_explore (cI := cI) (cJ := cJ) (cC := cC) (cZ := cZ) (cR := cR) a_s a_z a_sf a_sl a_sx a_zb a_zr a_zc a_zq a_ze a_za a_zd ss_count_22 ss_found_22 ss_leads_22 ss_slots_22 zz_pieceCount zz_ruleCount zz_columnCount zz_behind zz_readersOfColumn) [(2, .int l2_22), (0, .ref a_s), (1, .int p1)] [] 22 := by
    intro kk22_0 kk22_1 hX22_0 hX22_1 n_22
    induction n_22 with
    | zero =>
      intro l2_22 ss_count_22 ss_found_22 ss_leads_22 ss_slots_22 h
      exact nS h
    | succ n_22 ih22 =>
      intro l2_22 ss_count_22 ss_found_22 ss_leads_22 ss_slots_22 h
      replace h := (f_Graph_explore_L22_s _ _ _ _ _ _ _ _ _ _ _ _ _).symm.trans h
      refine k_iload_n C d_Graph_explore_22 rfl 0 rfl rfl ?_
      refine k_aload_n C d_Graph_explore_23 rfl 1 rfl rfl ?_
      refine k_getf C d_Graph_explore_24 hin_Graph rfl 4 (by decide) mw126 0 rfl rfl rfl ?_
      refine k_icmp_ge (tgt := 53) C d_Graph_explore_27 (by decide) rfl (fun c8 => ?_) (fun c8 => ?_)
      · replace h := gi_t h c8
        exact hX22_0 l2_22 ss_count_22 ss_found_22 ss_leads_22 ss_slots_22 h
      · replace h := gi_f h c8
        refine k_iload_n C d_Graph_explore_30 rfl 0 rfl rfl ?_
        refine k_bipush C d_Graph_explore_31 (v := (120 : Int32)) (by decide) rfl ?_
        refine k_icmp_ge (tgt := 53) C d_Graph_explore_33 (by decide) rfl (fun c9 => ?_) (fun c9 => ?_)
        · replace h := gi_t h c9
          exact hX22_0 l2_22 ss_count_22 ss_found_22 ss_leads_22 ss_slots_22 h
        · replace h := gi_f h c9
          refine k_aload_n C d_Graph_explore_36 rfl 1 rfl rfl ?_
          refine k_iload_n C d_Graph_explore_37 rfl 0 rfl rfl ?_
          refine k_iload_n C d_Graph_explore_38 rfl 2 rfl rfl ?_
          obtain ⟨⟨r10, yss_count_11, yss_found_12, yss_leads_13, yss_slots_14⟩, hc15, h⟩ := bd h
          refine k_callVd (As := [.int l2_22, .int p1]) (st := []) (st' := [.int r10]) (wn := w_Graph_explore (cI := cI) (cJ := cJ) (cC := cC) (cZ := cZ) (cR := cR) a_s a_z a_sf a_sl a_sx a_zb a_zr a_zc a_zq a_ze a_za a_zd yss_count_11 yss_found_12 yss_leads_13 yss_slots_14 zz_pieceCount zz_ruleCount zz_columnCount zz_behind zz_readersOfColumn) C d_Graph_explore_39 (c_Graph_exploreFrom fu a_s a_z a_sf a_sl a_sx a_zb a_zr a_zc a_zq a_ze a_za a_zd ss_count_22 ss_found_22 ss_leads_22 ss_slots_22 zz_pieceCount zz_ruleCount zz_columnCount zz_behind zz_readersOfColumn l2_22 p1 r10 yss_count_11 yss_found_12 yss_leads_13 yss_slots_14 hc15) co_Graph_exploreFrom cov_Graph_exploreFrom mw138 0 rfl rfl (by decide) (by decide) (Nat.le_of_ble_eq_true rfl) rfl [0, 1, 2, 3, 4, 5, 6] [] [0, 1, 2, 3, 4, 5, 6] rfl (by decide +kernel) rfl (by decide +kernel) (by decide +kernel) rfl (by decide +kernel) rfl rfl ?_
          refine k_if_ne (tgt := 47) C d_Graph_explore_42 (by decide) rfl (fun c16 => ?_) (fun c16 => ?_)
          · replace h := gi_f h c16
            refine k_iinc (lv' := [(2, .int (l2_22 + 1)), (0, .ref a_s), (1, .int p1)]) C d_Graph_explore_47 0 rfl rfl (by decide) rfl rfl ?_
            refine k_goto (tgt := 22) C d_Graph_explore_50 (by decide) ?_
            exact ih22 (l2_22 + 1) yss_count_11 yss_found_12 yss_leads_13 yss_slots_14 h
          · replace h := gi_t h c16
            exact hX22_1 l2_22 yss_count_11 yss_found_12 yss_leads_13 yss_slots_14 h
  exact L22 (fun l2_22 ss_count_22 ss_found_22 ss_leads_22 ss_slots_22 => (if ((1 : Int32) = 0 ∨ (1 : Int32) = 1) then some ((1 : Int32), ss_count_22, ss_found_22, ss_leads_22, ss_slots_22) else none)) (fun l2_22 ss_count_22 ss_found_22 ss_leads_22 ss_slots_22 => (if ((0 : Int32) = 0 ∨ (0 : Int32) = 1) then some ((0 : Int32), ss_count_22, ss_found_22, ss_leads_22, ss_slots_22) else none)) X22_0 X22_1 fu (0 : Int32) yss_count_4 yss_found_5 ss_leads yss_slots_6 h
theorem d_Graph_lead_0 : decode b_Graph_lead 0 = .ok (.iload_n 1, 1) := by decide +kernel
theorem d_Graph_lead_1 : decode b_Graph_lead 1 = .ok (.ifCond .lt 26, 3) := by decide +kernel
theorem d_Graph_lead_4 : decode b_Graph_lead 4 = .ok (.iload_n 1, 1) := by decide +kernel
theorem d_Graph_lead_5 : decode b_Graph_lead 5 = .ok (.aload_n 0, 1) := by decide +kernel
theorem d_Graph_lead_6 : decode b_Graph_lead 6 = .ok (.getfield 32, 3) := by decide +kernel
theorem d_Graph_lead_9 : decode b_Graph_lead 9 = .ok (.if_icmp .ge 18, 3) := by decide +kernel
theorem d_Graph_lead_12 : decode b_Graph_lead 12 = .ok (.iload_n 2, 1) := by decide +kernel
theorem d_Graph_lead_13 : decode b_Graph_lead 13 = .ok (.ifCond .lt 14, 3) := by decide +kernel
theorem d_Graph_lead_16 : decode b_Graph_lead 16 = .ok (.iload_n 2, 1) := by decide +kernel
theorem d_Graph_lead_17 : decode b_Graph_lead 17 = .ok (.aload_n 0, 1) := by decide +kernel
theorem d_Graph_lead_18 : decode b_Graph_lead 18 = .ok (.getfield 22, 3) := by decide +kernel
theorem d_Graph_lead_21 : decode b_Graph_lead 21 = .ok (.getfield 50, 3) := by decide +kernel
theorem d_Graph_lead_24 : decode b_Graph_lead 24 = .ok (.if_icmp .lt 5, 3) := by decide +kernel
theorem d_Graph_lead_27 : decode b_Graph_lead 27 = .ok (.iconst (-1), 1) := by decide +kernel
theorem d_Graph_lead_28 : decode b_Graph_lead 28 = .ok (.ireturn, 1) := by decide +kernel
theorem d_Graph_lead_29 : decode b_Graph_lead 29 = .ok (.iload_n 1, 1) := by decide +kernel
theorem d_Graph_lead_30 : decode b_Graph_lead 30 = .ok (.bipush 95, 2) := by decide +kernel
theorem d_Graph_lead_32 : decode b_Graph_lead 32 = .ok (.imul, 1) := by decide +kernel
theorem d_Graph_lead_33 : decode b_Graph_lead 33 = .ok (.iload_n 2, 1) := by decide +kernel
theorem d_Graph_lead_34 : decode b_Graph_lead 34 = .ok (.iadd, 1) := by decide +kernel
theorem d_Graph_lead_35 : decode b_Graph_lead 35 = .ok (.istore_n 3, 1) := by decide +kernel
theorem d_Graph_lead_36 : decode b_Graph_lead 36 = .ok (.iload_n 3, 1) := by decide +kernel
theorem d_Graph_lead_37 : decode b_Graph_lead 37 = .ok (.aload_n 0, 1) := by decide +kernel
theorem d_Graph_lead_38 : decode b_Graph_lead 38 = .ok (.getfield 15, 3) := by decide +kernel
theorem d_Graph_lead_41 : decode b_Graph_lead 41 = .ok (.arraylength, 1) := by decide +kernel
theorem d_Graph_lead_42 : decode b_Graph_lead 42 = .ok (.if_icmp .ge 12, 3) := by decide +kernel
theorem d_Graph_lead_45 : decode b_Graph_lead 45 = .ok (.aload_n 0, 1) := by decide +kernel
theorem d_Graph_lead_46 : decode b_Graph_lead 46 = .ok (.getfield 15, 3) := by decide +kernel
theorem d_Graph_lead_49 : decode b_Graph_lead 49 = .ok (.iload_n 3, 1) := by decide +kernel
theorem d_Graph_lead_50 : decode b_Graph_lead 50 = .ok (.iaload, 1) := by decide +kernel
theorem d_Graph_lead_51 : decode b_Graph_lead 51 = .ok (.goto 4, 3) := by decide +kernel
theorem d_Graph_lead_54 : decode b_Graph_lead 54 = .ok (.iconst (-1), 1) := by decide +kernel
theorem d_Graph_lead_55 : decode b_Graph_lead 55 = .ok (.ireturn, 1) := by decide +kernel
abbrev w_Graph_lead {cI cJ cC cZ cR : ClassId} (a_s a_z a_sf a_sl a_sx a_zb a_zr a_zc a_zq a_ze a_za a_zd : Nat) (ss_count : Int32) (ss_leads : Nat → Int32) (zz_pieceCount : Int32) (zz_ruleCount : Int32) (zz_columnCount : Int32) : va_W := [(a_s, .inr (5, [.ref a_z, .ref a_sf, .ref a_sl, .ref a_sx, .int ss_count])), (a_sl, .inl (cI, 11400, .inl ss_leads)), (a_z, .inr (4, [.ref a_zb, .ref a_zr, .ref a_zc, .ref a_zq, .ref a_ze, .ref a_za, .ref a_zd, .int zz_pieceCount, .int zz_ruleCount, .int zz_columnCount]))]
def f_Graph_lead (p1 : Int32) (p2 : Int32) (ss_count : Int32) (ss_leads : Nat → Int32) (zz_columnCount : Int32) : Option (Int32) := (if p1 < 0 then some (-1 : Int32) else (if ss_count ≤ p1 then some (-1 : Int32) else (if p2 < 0 then some (-1 : Int32) else (if p2 < zz_columnCount then (if (11400 : Int32) ≤ ((p1 * (95 : Int32)) + p2) then some (-1 : Int32) else (if inB ((p1 * (95 : Int32)) + p2) 11400 = true then some (ss_leads ((p1 * (95 : Int32)) + p2).toNatClampNeg) else none)) else some (-1 : Int32)))))
set_option maxRecDepth 100000 in
set_option maxHeartbeats 4000000 in
theorem c_Graph_lead {l : Launch} {D : va_G} {cI cJ cC cZ cR : ClassId} (fu : Nat) (a_s a_z a_sf a_sl a_sx a_zb a_zr a_zc a_zq a_ze a_za a_zd : Nat)   (ss_count : Int32) (ss_leads : Nat → Int32) (zz_pieceCount : Int32) (zz_ruleCount : Int32) (zz_columnCount : Int32) (p1 : Int32) (p2 : Int32) (o_r : Int32) (h : f_Graph_lead p1 p2 ss_count ss_leads zz_columnCount = some o_r) : GM l D (tysL cI cJ cC cZ cR) y_Graph_lead b_Graph_lead 4 (some (.int)) { frames := 0, cells := 0, slots := 0, locals := 0 } [.ref a_s, .int p1, .int p2] (w_Graph_lead (cI := cI) (cJ := cJ) (cC := cC) (cZ := cZ) (cR := cR) a_s a_z a_sf a_sl a_sx a_zb a_zr a_zc a_zq a_ze a_za a_zd ss_count ss_leads zz_pieceCount zz_ruleCount zz_columnCount) (fun (o : Option Value) (w : va_W) => o = some (.int o_r) ∧ w = w_Graph_lead (cI := cI) (cJ := cJ) (cC := cC) (cZ := cZ) (cR := cR) a_s a_z a_sf a_sl a_sx a_zb a_zr a_zc a_zq a_ze a_za a_zd ss_count ss_leads zz_pieceCount zz_ruleCount zz_columnCount) := by
  refine GM.of (by decide) (Nat.le_of_ble_eq_true rfl) (lv := [(0, .ref a_s), (1, .int p1), (2, .int p2)]) rfl ?_
  intro X hX C
  subst hX
  refine k_iload_n C d_Graph_lead_0 rfl 1 rfl rfl ?_
  refine k_if_lt (tgt := 27) C d_Graph_lead_1 (by decide) rfl (fun c1 => ?_) (fun c1 => ?_)
  · replace h := gi_t h c1
    refine k_iconst C d_Graph_lead_27 (v := (-1 : Int32)) (by decide) rfl ?_
    exact k_iret C d_Graph_lead_28 (tr1 h (fun t => (fun (o : Option Value) (w : va_W) => o = some (.int (t)) ∧ w = w_Graph_lead (cI := cI) (cJ := cJ) (cC := cC) (cZ := cZ) (cR := cR) a_s a_z a_sf a_sl a_sx a_zb a_zr a_zc a_zq a_ze a_za a_zd ss_count ss_leads zz_pieceCount zz_ruleCount zz_columnCount) (some (Value.int (-1 : Int32))) (w_Graph_lead (cI := cI) (cJ := cJ) (cC := cC) (cZ := cZ) (cR := cR) a_s a_z a_sf a_sl a_sx a_zb a_zr a_zc a_zq a_ze a_za a_zd ss_count ss_leads zz_pieceCount zz_ruleCount zz_columnCount)) ⟨rfl, rfl⟩)
  · replace h := gi_f h c1
    refine k_iload_n C d_Graph_lead_4 rfl 1 rfl rfl ?_
    refine k_aload_n C d_Graph_lead_5 rfl 0 rfl rfl ?_
    refine k_getf C d_Graph_lead_6 hin_Graph rfl 4 (by decide) mw126 0 rfl rfl rfl ?_
    refine k_icmp_ge (tgt := 27) C d_Graph_lead_9 (by decide) rfl (fun c2 => ?_) (fun c2 => ?_)
    · replace h := gi_t h c2
      refine k_iconst C d_Graph_lead_27 (v := (-1 : Int32)) (by decide) rfl ?_
      exact k_iret C d_Graph_lead_28 (tr1 h (fun t => (fun (o : Option Value) (w : va_W) => o = some (.int (t)) ∧ w = w_Graph_lead (cI := cI) (cJ := cJ) (cC := cC) (cZ := cZ) (cR := cR) a_s a_z a_sf a_sl a_sx a_zb a_zr a_zc a_zq a_ze a_za a_zd ss_count ss_leads zz_pieceCount zz_ruleCount zz_columnCount) (some (Value.int (-1 : Int32))) (w_Graph_lead (cI := cI) (cJ := cJ) (cC := cC) (cZ := cZ) (cR := cR) a_s a_z a_sf a_sl a_sx a_zb a_zr a_zc a_zq a_ze a_za a_zd ss_count ss_leads zz_pieceCount zz_ruleCount zz_columnCount)) ⟨rfl, rfl⟩)
    · replace h := gi_f h c2
      refine k_iload_n C d_Graph_lead_12 rfl 2 rfl rfl ?_
      refine k_if_lt (tgt := 27) C d_Graph_lead_13 (by decide) rfl (fun c3 => ?_) (fun c3 => ?_)
      · replace h := gi_t h c3
        refine k_iconst C d_Graph_lead_27 (v := (-1 : Int32)) (by decide) rfl ?_
        exact k_iret C d_Graph_lead_28 (tr1 h (fun t => (fun (o : Option Value) (w : va_W) => o = some (.int (t)) ∧ w = w_Graph_lead (cI := cI) (cJ := cJ) (cC := cC) (cZ := cZ) (cR := cR) a_s a_z a_sf a_sl a_sx a_zb a_zr a_zc a_zq a_ze a_za a_zd ss_count ss_leads zz_pieceCount zz_ruleCount zz_columnCount) (some (Value.int (-1 : Int32))) (w_Graph_lead (cI := cI) (cJ := cJ) (cC := cC) (cZ := cZ) (cR := cR) a_s a_z a_sf a_sl a_sx a_zb a_zr a_zc a_zq a_ze a_za a_zd ss_count ss_leads zz_pieceCount zz_ruleCount zz_columnCount)) ⟨rfl, rfl⟩)
      · replace h := gi_f h c3
        refine k_iload_n C d_Graph_lead_16 rfl 2 rfl rfl ?_
        refine k_aload_n C d_Graph_lead_17 rfl 0 rfl rfl ?_
        refine k_getf C d_Graph_lead_18 hin_Graph rfl 0 (by decide) mw131 0 rfl rfl rfl ?_
        refine k_getN C d_Graph_lead_21 hin_Union rfl 9 (by decide) mw132 2 rfl rfl rfl ?_
        refine k_icmp_lt (tgt := 29) C d_Graph_lead_24 (by decide) rfl (fun c4 => ?_) (fun c4 => ?_)
        · replace h := gi_t h c4
          refine k_iload_n C d_Graph_lead_29 rfl 1 rfl rfl ?_
          refine k_bipush C d_Graph_lead_30 (v := (95 : Int32)) (by decide) rfl ?_
          refine k_imul C d_Graph_lead_32 rfl ?_
          refine k_iload_n C d_Graph_lead_33 rfl 2 rfl rfl ?_
          refine k_iadd C d_Graph_lead_34 rfl ?_
          refine k_istore_n (lv' := [(3, .int ((p1 * (95 : Int32)) + p2)), (0, .ref a_s), (1, .int p1), (2, .int p2)]) C d_Graph_lead_35 rfl (by decide) rfl rfl ?_
          refine k_iload_n C d_Graph_lead_36 rfl 0 rfl rfl ?_
          refine k_aload_n C d_Graph_lead_37 rfl 1 rfl rfl ?_
          refine k_getf C d_Graph_lead_38 hin_Graph rfl 2 (by decide) mw133 0 rfl rfl rfl ?_
          refine k_alen (z := (11400 : Int32)) C d_Graph_lead_41 1 0 rfl rfl rfl rfl ?_
          refine k_icmp_ge (tgt := 54) C d_Graph_lead_42 (by decide) rfl (fun c5 => ?_) (fun c5 => ?_)
          · replace h := gi_t h c5
            refine k_iconst C d_Graph_lead_54 (v := (-1 : Int32)) (by decide) rfl ?_
            exact k_iret C d_Graph_lead_55 (tr1 h (fun t => (fun (o : Option Value) (w : va_W) => o = some (.int (t)) ∧ w = w_Graph_lead (cI := cI) (cJ := cJ) (cC := cC) (cZ := cZ) (cR := cR) a_s a_z a_sf a_sl a_sx a_zb a_zr a_zc a_zq a_ze a_za a_zd ss_count ss_leads zz_pieceCount zz_ruleCount zz_columnCount) (some (Value.int (-1 : Int32))) (w_Graph_lead (cI := cI) (cJ := cJ) (cC := cC) (cZ := cZ) (cR := cR) a_s a_z a_sf a_sl a_sx a_zb a_zr a_zc a_zq a_ze a_za a_zd ss_count ss_leads zz_pieceCount zz_ruleCount zz_columnCount)) ⟨rfl, rfl⟩)
          · replace h := gi_f h c5
            refine k_aload_n C d_Graph_lead_45 rfl 1 rfl rfl ?_
            refine k_getf C d_Graph_lead_46 hin_Graph rfl 2 (by decide) mw133 0 rfl rfl rfl ?_
            refine k_iload_n C d_Graph_lead_49 rfl 0 rfl rfl ?_
            have g6 := gd1 h
            replace h := gd2 h
            refine k_iald C d_Graph_lead_50 1 0 rfl rfl (inB_in g6) rfl ?_
            refine k_goto (tgt := 55) C d_Graph_lead_51 (by decide) ?_
            exact k_iret C d_Graph_lead_55 (tr1 h (fun t => (fun (o : Option Value) (w : va_W) => o = some (.int (t)) ∧ w = w_Graph_lead (cI := cI) (cJ := cJ) (cC := cC) (cZ := cZ) (cR := cR) a_s a_z a_sf a_sl a_sx a_zb a_zr a_zc a_zq a_ze a_za a_zd ss_count ss_leads zz_pieceCount zz_ruleCount zz_columnCount) (some (Value.int (ss_leads ((p1 * (95 : Int32)) + p2).toNatClampNeg))) (w_Graph_lead (cI := cI) (cJ := cJ) (cC := cC) (cZ := cZ) (cR := cR) a_s a_z a_sf a_sl a_sx a_zb a_zr a_zc a_zq a_ze a_za a_zd ss_count ss_leads zz_pieceCount zz_ruleCount zz_columnCount)) ⟨rfl, rfl⟩)
        · replace h := gi_f h c4
          refine k_iconst C d_Graph_lead_27 (v := (-1 : Int32)) (by decide) rfl ?_
          exact k_iret C d_Graph_lead_28 (tr1 h (fun t => (fun (o : Option Value) (w : va_W) => o = some (.int (t)) ∧ w = w_Graph_lead (cI := cI) (cJ := cJ) (cC := cC) (cZ := cZ) (cR := cR) a_s a_z a_sf a_sl a_sx a_zb a_zr a_zc a_zq a_ze a_za a_zd ss_count ss_leads zz_pieceCount zz_ruleCount zz_columnCount) (some (Value.int (-1 : Int32))) (w_Graph_lead (cI := cI) (cJ := cJ) (cC := cC) (cZ := cZ) (cR := cR) a_s a_z a_sf a_sl a_sx a_zb a_zr a_zc a_zq a_ze a_za a_zd ss_count ss_leads zz_pieceCount zz_ruleCount zz_columnCount)) ⟨rfl, rfl⟩)
theorem d_Graph_permissionsOf_0 : decode b_Graph_permissionsOf 0 = .ok (.iload_n 1, 1) := by decide +kernel
theorem d_Graph_permissionsOf_1 : decode b_Graph_permissionsOf 1 = .ok (.ifCond .lt 27, 3) := by decide +kernel
theorem d_Graph_permissionsOf_4 : decode b_Graph_permissionsOf 4 = .ok (.iload_n 1, 1) := by decide +kernel
theorem d_Graph_permissionsOf_5 : decode b_Graph_permissionsOf 5 = .ok (.aload_n 0, 1) := by decide +kernel
theorem d_Graph_permissionsOf_6 : decode b_Graph_permissionsOf 6 = .ok (.getfield 32, 3) := by decide +kernel
theorem d_Graph_permissionsOf_9 : decode b_Graph_permissionsOf 9 = .ok (.if_icmp .ge 19, 3) := by decide +kernel
theorem d_Graph_permissionsOf_12 : decode b_Graph_permissionsOf 12 = .ok (.aload_n 0, 1) := by decide +kernel
theorem d_Graph_permissionsOf_13 : decode b_Graph_permissionsOf 13 = .ok (.getfield 22, 3) := by decide +kernel
theorem d_Graph_permissionsOf_16 : decode b_Graph_permissionsOf 16 = .ok (.aload_n 0, 1) := by decide +kernel
theorem d_Graph_permissionsOf_17 : decode b_Graph_permissionsOf 17 = .ok (.getfield 9, 3) := by decide +kernel
theorem d_Graph_permissionsOf_20 : decode b_Graph_permissionsOf 20 = .ok (.iload_n 1, 1) := by decide +kernel
theorem d_Graph_permissionsOf_21 : decode b_Graph_permissionsOf 21 = .ok (.laload, 1) := by decide +kernel
theorem d_Graph_permissionsOf_22 : decode b_Graph_permissionsOf 22 = .ok (.invokevirtual 63, 3) := by decide +kernel
theorem d_Graph_permissionsOf_25 : decode b_Graph_permissionsOf 25 = .ok (.goto 4, 3) := by decide +kernel
theorem d_Graph_permissionsOf_28 : decode b_Graph_permissionsOf 28 = .ok (.iconst (-1), 1) := by decide +kernel
theorem d_Graph_permissionsOf_29 : decode b_Graph_permissionsOf 29 = .ok (.ireturn, 1) := by decide +kernel
abbrev w_Graph_permissionsOf {cI cJ cC cZ cR : ClassId} (a_s a_z a_sf a_sl a_sx a_zb a_zr a_zc a_zq a_ze a_za a_zd : Nat) (ss_count : Int32) (ss_found : Nat → Int64) (zz_pieceCount : Int32) (zz_ruleCount : Int32) (zz_columnCount : Int32) (zz_endsOf : Nat → Int64) (zz_allowedBy : Nat → Int32) (zz_deniedBy : Nat → Int32) : va_W := [(a_s, .inr (5, [.ref a_z, .ref a_sf, .ref a_sl, .ref a_sx, .int ss_count])), (a_sf, .inl (cJ, 120, .inr (.inl ss_found))), (a_z, .inr (4, [.ref a_zb, .ref a_zr, .ref a_zc, .ref a_zq, .ref a_ze, .ref a_za, .ref a_zd, .int zz_pieceCount, .int zz_ruleCount, .int zz_columnCount])), (a_ze, .inl (cJ, 6, .inr (.inl zz_endsOf))), (a_za, .inl (cI, 6, .inl zz_allowedBy)), (a_zd, .inl (cI, 6, .inl zz_deniedBy))]
def f_Graph_permissionsOf (fu : Nat) (p1 : Int32) (ss_count : Int32) (ss_found : Nat → Int64) (zz_ruleCount : Int32) (zz_endsOf : Nat → Int64) (zz_allowedBy : Nat → Int32) (zz_deniedBy : Nat → Int32) : Option (Int32) := (if p1 < 0 then some (-1 : Int32) else (if ss_count ≤ p1 then some (-1 : Int32) else (if inB p1 120 = true then (Option.bind (f_Union_permissionsOf fu (ss_found p1.toNatClampNeg) zz_ruleCount zz_endsOf zz_allowedBy zz_deniedBy) fun r4 => some r4) else none)))
set_option maxRecDepth 100000 in
set_option maxHeartbeats 4000000 in
theorem c_Graph_permissionsOf {l : Launch} {D : va_G} {cI cJ cC cZ cR : ClassId} (fu : Nat) (a_s a_z a_sf a_sl a_sx a_zb a_zr a_zc a_zq a_ze a_za a_zd : Nat)   (ss_count : Int32) (ss_found : Nat → Int64) (zz_pieceCount : Int32) (zz_ruleCount : Int32) (zz_columnCount : Int32) (zz_endsOf : Nat → Int64) (zz_allowedBy : Nat → Int32) (zz_deniedBy : Nat → Int32) (p1 : Int32) (o_r : Int32) (h : f_Graph_permissionsOf fu p1 ss_count ss_found zz_ruleCount zz_endsOf zz_allowedBy zz_deniedBy = some o_r) : GM l D (tysL cI cJ cC cZ cR) y_Graph_permissionsOf b_Graph_permissionsOf 2 (some (.int)) { frames := 1, cells := 0, slots := 0, locals := 25 } [.ref a_s, .int p1] (w_Graph_permissionsOf (cI := cI) (cJ := cJ) (cC := cC) (cZ := cZ) (cR := cR) a_s a_z a_sf a_sl a_sx a_zb a_zr a_zc a_zq a_ze a_za a_zd ss_count ss_found zz_pieceCount zz_ruleCount zz_columnCount zz_endsOf zz_allowedBy zz_deniedBy) (fun (o : Option Value) (w : va_W) => o = some (.int o_r) ∧ w = w_Graph_permissionsOf (cI := cI) (cJ := cJ) (cC := cC) (cZ := cZ) (cR := cR) a_s a_z a_sf a_sl a_sx a_zb a_zr a_zc a_zq a_ze a_za a_zd ss_count ss_found zz_pieceCount zz_ruleCount zz_columnCount zz_endsOf zz_allowedBy zz_deniedBy) := by
  refine GM.of (by decide) (Nat.le_of_ble_eq_true rfl) (lv := [(0, .ref a_s), (1, .int p1)]) rfl ?_
  intro X hX C
  subst hX
  refine k_iload_n C d_Graph_permissionsOf_0 rfl 1 rfl rfl ?_
  refine k_if_lt (tgt := 28) C d_Graph_permissionsOf_1 (by decide) rfl (fun c1 => ?_) (fun c1 => ?_)
  · replace h := gi_t h c1
    refine k_iconst C d_Graph_permissionsOf_28 (v := (-1 : Int32)) (by decide) rfl ?_
    exact k_iret C d_Graph_permissionsOf_29 (tr1 h (fun t => (fun (o : Option Value) (w : va_W) => o = some (.int (t)) ∧ w = w_Graph_permissionsOf (cI := cI) (cJ := cJ) (cC := cC) (cZ := cZ) (cR := cR) a_s a_z a_sf a_sl a_sx a_zb a_zr a_zc a_zq a_ze a_za a_zd ss_count ss_found zz_pieceCount zz_ruleCount zz_columnCount zz_endsOf zz_allowedBy zz_deniedBy) (some (Value.int (-1 : Int32))) (w_Graph_permissionsOf (cI := cI) (cJ := cJ) (cC := cC) (cZ := cZ) (cR := cR) a_s a_z a_sf a_sl a_sx a_zb a_zr a_zc a_zq a_ze a_za a_zd ss_count ss_found zz_pieceCount zz_ruleCount zz_columnCount zz_endsOf zz_allowedBy zz_deniedBy)) ⟨rfl, rfl⟩)
  · replace h := gi_f h c1
    refine k_iload_n C d_Graph_permissionsOf_4 rfl 1 rfl rfl ?_
    refine k_aload_n C d_Graph_permissionsOf_5 rfl 0 rfl rfl ?_
    refine k_getf C d_Graph_permissionsOf_6 hin_Graph rfl 4 (by decide) mw126 0 rfl rfl rfl ?_
    refine k_icmp_ge (tgt := 28) C d_Graph_permissionsOf_9 (by decide) rfl (fun c2 => ?_) (fun c2 => ?_)
    · replace h := gi_t h c2
      refine k_iconst C d_Graph_permissionsOf_28 (v := (-1 : Int32)) (by decide) rfl ?_
      exact k_iret C d_Graph_permissionsOf_29 (tr1 h (fun t => (fun (o : Option Value) (w : va_W) => o = some (.int (t)) ∧ w = w_Graph_permissionsOf (cI := cI) (cJ := cJ) (cC := cC) (cZ := cZ) (cR := cR) a_s a_z a_sf a_sl a_sx a_zb a_zr a_zc a_zq a_ze a_za a_zd ss_count ss_found zz_pieceCount zz_ruleCount zz_columnCount zz_endsOf zz_allowedBy zz_deniedBy) (some (Value.int (-1 : Int32))) (w_Graph_permissionsOf (cI := cI) (cJ := cJ) (cC := cC) (cZ := cZ) (cR := cR) a_s a_z a_sf a_sl a_sx a_zb a_zr a_zc a_zq a_ze a_za a_zd ss_count ss_found zz_pieceCount zz_ruleCount zz_columnCount zz_endsOf zz_allowedBy zz_deniedBy)) ⟨rfl, rfl⟩)
    · replace h := gi_f h c2
      refine k_aload_n C d_Graph_permissionsOf_12 rfl 0 rfl rfl ?_
      refine k_getf C d_Graph_permissionsOf_13 hin_Graph rfl 0 (by decide) mw131 0 rfl rfl rfl ?_
      refine k_aload_n C d_Graph_permissionsOf_16 rfl 0 rfl rfl ?_
      refine k_getf C d_Graph_permissionsOf_17 hin_Graph rfl 1 (by decide) mw127 0 rfl rfl rfl ?_
      refine k_iload_n C d_Graph_permissionsOf_20 rfl 1 rfl rfl ?_
      have g3 := gd1 h
      replace h := gd2 h
      refine k_lald C d_Graph_permissionsOf_21 1 1 rfl rfl (inB_in g3) rfl ?_
      obtain ⟨r4, hc5, h⟩ := bd h
      refine k_callVd (As := [.long (ss_found p1.toNatClampNeg)]) (st := []) (st' := [.int r4]) (wn := w_Graph_permissionsOf (cI := cI) (cJ := cJ) (cC := cC) (cZ := cZ) (cR := cR) a_s a_z a_sf a_sl a_sx a_zb a_zr a_zc a_zq a_ze a_za a_zd ss_count ss_found zz_pieceCount zz_ruleCount zz_columnCount zz_endsOf zz_allowedBy zz_deniedBy) C d_Graph_permissionsOf_22 (c_Union_permissionsOf fu a_z a_zb a_zr a_zc a_zq a_ze a_za a_zd zz_pieceCount zz_ruleCount zz_columnCount zz_endsOf zz_allowedBy zz_deniedBy (ss_found p1.toNatClampNeg) r4 hc5) co_Union_permissionsOf cov_Union_permissionsOf mw139 2 rfl rfl (by decide) (by decide) (Nat.le_of_ble_eq_true rfl) rfl [2, 3, 4, 5] [0, 1] [0, 1, 2, 3, 4, 5] rfl (by decide +kernel) rfl (by decide +kernel) (by decide +kernel) rfl (by decide +kernel) rfl rfl ?_
      refine k_goto (tgt := 29) C d_Graph_permissionsOf_25 (by decide) ?_
      exact k_iret C d_Graph_permissionsOf_29 (tr1 h (fun t => (fun (o : Option Value) (w : va_W) => o = some (.int (t)) ∧ w = w_Graph_permissionsOf (cI := cI) (cJ := cJ) (cC := cC) (cZ := cZ) (cR := cR) a_s a_z a_sf a_sl a_sx a_zb a_zr a_zc a_zq a_ze a_za a_zd ss_count ss_found zz_pieceCount zz_ruleCount zz_columnCount zz_endsOf zz_allowedBy zz_deniedBy) (some (Value.int r4)) (w_Graph_permissionsOf (cI := cI) (cJ := cJ) (cC := cC) (cZ := cZ) (cR := cR) a_s a_z a_sf a_sl a_sx a_zb a_zr a_zc a_zq a_ze a_za a_zd ss_count ss_found zz_pieceCount zz_ruleCount zz_columnCount zz_endsOf zz_allowedBy zz_deniedBy)) ⟨rfl, rfl⟩)
